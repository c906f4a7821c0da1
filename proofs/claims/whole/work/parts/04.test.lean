def F_X11_isWithin (p0 : Int32) (p1 : Int32) (p2 : Int32) : Option (Int32) :=
  brn (p0 < p1) (some ((0 : Int32))) (brn (p2 < p0) (some ((0 : Int32))) (some ((1 : Int32))))
theorem dX11_isWithin_0 : decode cX11_isWithin 0 = .ok (.iload_n 0, 1) := by decide +kernel
theorem dX11_isWithin_1 : decode cX11_isWithin 1 = .ok (.iload_n 1, 1) := by decide +kernel
theorem dX11_isWithin_2 : decode cX11_isWithin 2 = .ok (.if_icmp .lt 12, 3) := by decide +kernel
theorem dX11_isWithin_5 : decode cX11_isWithin 5 = .ok (.iload_n 0, 1) := by decide +kernel
theorem dX11_isWithin_6 : decode cX11_isWithin 6 = .ok (.iload_n 2, 1) := by decide +kernel
theorem dX11_isWithin_7 : decode cX11_isWithin 7 = .ok (.if_icmp .gt 7, 3) := by decide +kernel
theorem dX11_isWithin_10 : decode cX11_isWithin 10 = .ok (.iconst 1, 1) := by decide +kernel
theorem dX11_isWithin_11 : decode cX11_isWithin 11 = .ok (.goto 4, 3) := by decide +kernel
theorem dX11_isWithin_14 : decode cX11_isWithin 14 = .ok (.iconst 0, 1) := by decide +kernel
theorem dX11_isWithin_15 : decode cX11_isWithin 15 = .ok (.ireturn, 1) := by decide +kernel
theorem k_X11_isWithin : cardS yX11_isWithin (Cond.code yX11_isWithin cX11_isWithin 3 (some .boolean)) 3 := ⟨qs_X11_isWithin, qc_X11_isWithin, qn_X11, by decide +kernel, by decide +kernel, by decide +kernel⟩
set_option maxHeartbeats 4000000 in
set_option maxRecDepth 100000 in
theorem c_X11_isWithin (l : Launch) (D : va_G) (g : Nat → ClassId) (p0 p1 p2 : Int32) (o : Int32) (h : F_X11_isWithin p0 p1 p2 = some o) : MR l yX11_isWithin (Cond.code yX11_isWithin cX11_isWithin 3 (some .boolean)) { frames := 0, cells := 0, slots := 0, locals := 0 } D g [.int p0, .int p1, .int p2] [] (some (.int o)) := by
  refine z_rd_start (by decide) (Nat.le_of_ble_eq_true rfl) ?_
  intro p e s m args below meth c Q X hr hQ
  refine z_lv (lv' := [(0, .int p0), (1, .int p1), (2, .int p2)]) rfl ?_
  refine z_iload_n X 0 dX11_isWithin_0 rfl rfl ?_
  refine z_iload_n X 1 dX11_isWithin_1 rfl rfl ?_
  refine z_icmp_lt X 14 dX11_isWithin_2 (by decide) h (fun _ h => ?_) (fun _ h => ?_)
  · refine z_iconst X (0 : Int32) dX11_isWithin_14 (by decide) ?_
    exact z_zretR X hQ hr dX11_isWithin_15 rfl h
  · refine z_iload_n X 0 dX11_isWithin_5 rfl rfl ?_
    refine z_iload_n X 2 dX11_isWithin_6 rfl rfl ?_
    refine z_icmp_gt X 14 dX11_isWithin_7 (by decide) h (fun _ h => ?_) (fun _ h => ?_)
    · refine z_iconst X (0 : Int32) dX11_isWithin_14 (by decide) ?_
      exact z_zretR X hQ hr dX11_isWithin_15 rfl h
    · refine z_iconst X (1 : Int32) dX11_isWithin_10 (by decide) ?_
      refine z_goto X 15 dX11_isWithin_11 (by decide) ?_
      exact z_zretR X hQ hr dX11_isWithin_15 rfl h

def F_X11_isLane (p0 : Int32) : Option (Int32) :=
  bnd (F_X11_isWithin p0 (0 : Int32) (7 : Int32)) (fun o1 => grd (o1 = 0 ∨ o1 = 1) (some (o1)))
theorem dX11_isLane_0 : decode cX11_isLane 0 = .ok (.iload_n 0, 1) := by decide +kernel
theorem dX11_isLane_1 : decode cX11_isLane 1 = .ok (.iconst 0, 1) := by decide +kernel
theorem dX11_isLane_2 : decode cX11_isLane 2 = .ok (.bipush 7, 2) := by decide +kernel
theorem dX11_isLane_4 : decode cX11_isLane 4 = .ok (.invokestatic 120, 3) := by decide +kernel
theorem dX11_isLane_7 : decode cX11_isLane 7 = .ok (.ireturn, 1) := by decide +kernel
theorem k_X11_isLane : cardS yX11_isLane (Cond.code yX11_isLane cX11_isLane 1 (some .boolean)) 1 := ⟨qs_X11_isLane, qc_X11_isLane, qn_X11, by decide +kernel, by decide +kernel, by decide +kernel⟩
set_option maxHeartbeats 4000000 in
set_option maxRecDepth 100000 in
theorem c_X11_isLane (l : Launch) (D : va_G) (g : Nat → ClassId) (p0 : Int32) (o : Int32) (h : F_X11_isLane p0 = some o) : MR l yX11_isLane (Cond.code yX11_isLane cX11_isLane 1 (some .boolean)) { frames := 1, cells := 0, slots := 0, locals := 22 } D g [.int p0] [] (some (.int o)) := by
  refine z_rd_start (by decide) (Nat.le_of_ble_eq_true rfl) ?_
  intro p e s m args below meth c Q X hr hQ
  refine z_lv (lv' := [(0, .int p0)]) rfl ?_
  refine z_iload_n X 0 dX11_isLane_0 rfl rfl ?_
  refine z_iconst X (0 : Int32) dX11_isLane_1 (by decide) ?_
  refine z_bipush X (7 : Int32) dX11_isLane_2 (by decide) ?_
  obtain ⟨o1, e2, h⟩ := bnd_p h
  refine z_rdS (rest := []) X IR_P k_X11_isWithin (c_X11_isWithin l D g p0 (0 : Int32) (7 : Int32) o1 e2) ql_X11_X11_isWithin dX11_isLane_4 [] rfl rfl rfl ⟨Nat.le_of_ble_eq_true rfl, Nat.le_of_ble_eq_true rfl, rfl, rfl, Nat.le_of_ble_eq_true rfl, Nat.le_of_ble_eq_true rfl⟩ (Nat.le_of_ble_eq_true rfl) ?_
  obtain ⟨e3, h⟩ := grd_p h
  exact z_zretR X hQ hr dX11_isLane_7 (nar_bool e3) h

def F_X0_rowOf (p0 : Int32) : Option (Int32) :=
  some (p0 / (8 : Int32))
theorem dX0_rowOf_0 : decode cX0_rowOf 0 = .ok (.iload_n 0, 1) := by decide +kernel
theorem dX0_rowOf_1 : decode cX0_rowOf 1 = .ok (.bipush 8, 2) := by decide +kernel
theorem dX0_rowOf_3 : decode cX0_rowOf 3 = .ok (.idiv, 1) := by decide +kernel
theorem dX0_rowOf_4 : decode cX0_rowOf 4 = .ok (.ireturn, 1) := by decide +kernel
theorem k_X0_rowOf : cardS yX0_rowOf (Cond.code yX0_rowOf cX0_rowOf 1 (some .int)) 1 := ⟨qs_X0_rowOf, qc_X0_rowOf, qn_X0, by decide +kernel, by decide +kernel, by decide +kernel⟩
set_option maxHeartbeats 4000000 in
set_option maxRecDepth 100000 in
theorem c_X0_rowOf (l : Launch) (D : va_G) (g : Nat → ClassId) (p0 : Int32) (o : Int32) (h : F_X0_rowOf p0 = some o) : MR l yX0_rowOf (Cond.code yX0_rowOf cX0_rowOf 1 (some .int)) { frames := 0, cells := 0, slots := 0, locals := 0 } D g [.int p0] [] (some (.int o)) := by
  refine z_rd_start (by decide) (Nat.le_of_ble_eq_true rfl) ?_
  intro p e s m args below meth c Q X hr hQ
  refine z_lv (lv' := [(0, .int p0)]) rfl ?_
  refine z_iload_n X 0 dX0_rowOf_0 rfl rfl ?_
  refine z_bipush X (8 : Int32) dX0_rowOf_1 (by decide) ?_
  refine z_idiv X dX0_rowOf_3 (by decide) ?_
  exact z_iretR X hQ hr dX0_rowOf_4 h

def F_X0_columnOf (p0 : Int32) : Option (Int32) :=
  some (p0 - p0 / (8 : Int32) * (8 : Int32))
theorem dX0_columnOf_0 : decode cX0_columnOf 0 = .ok (.iload_n 0, 1) := by decide +kernel
theorem dX0_columnOf_1 : decode cX0_columnOf 1 = .ok (.bipush 8, 2) := by decide +kernel
theorem dX0_columnOf_3 : decode cX0_columnOf 3 = .ok (.irem, 1) := by decide +kernel
theorem dX0_columnOf_4 : decode cX0_columnOf 4 = .ok (.ireturn, 1) := by decide +kernel
theorem k_X0_columnOf : cardS yX0_columnOf (Cond.code yX0_columnOf cX0_columnOf 1 (some .int)) 1 := ⟨qs_X0_columnOf, qc_X0_columnOf, qn_X0, by decide +kernel, by decide +kernel, by decide +kernel⟩
set_option maxHeartbeats 4000000 in
set_option maxRecDepth 100000 in
theorem c_X0_columnOf (l : Launch) (D : va_G) (g : Nat → ClassId) (p0 : Int32) (o : Int32) (h : F_X0_columnOf p0 = some o) : MR l yX0_columnOf (Cond.code yX0_columnOf cX0_columnOf 1 (some .int)) { frames := 0, cells := 0, slots := 0, locals := 0 } D g [.int p0] [] (some (.int o)) := by
  refine z_rd_start (by decide) (Nat.le_of_ble_eq_true rfl) ?_
  intro p e s m args below meth c Q X hr hQ
  refine z_lv (lv' := [(0, .int p0)]) rfl ?_
  refine z_iload_n X 0 dX0_columnOf_0 rfl rfl ?_
  refine z_bipush X (8 : Int32) dX0_columnOf_1 (by decide) ?_
  refine z_irem X dX0_columnOf_3 (by decide) ?_
  exact z_iretR X hQ hr dX0_columnOf_4 h

def F_X0_cellAt (p0 : Int32) (p1 : Int32) : Option (Int32) :=
  bnd (F_X11_isLane p0) (fun o1 => brn (o1 = 0) (some (((-1) : Int32))) (bnd (F_X11_isLane p1) (fun o3 => brn (o3 = 0) (some (((-1) : Int32))) (some (((8 : Int32) * p0) + p1)))))
theorem dX0_cellAt_0 : decode cX0_cellAt 0 = .ok (.iload_n 0, 1) := by decide +kernel
theorem dX0_cellAt_1 : decode cX0_cellAt 1 = .ok (.invokestatic 13, 3) := by decide +kernel
theorem dX0_cellAt_4 : decode cX0_cellAt 4 = .ok (.ifCond .eq 19, 3) := by decide +kernel
theorem dX0_cellAt_7 : decode cX0_cellAt 7 = .ok (.iload_n 1, 1) := by decide +kernel
theorem dX0_cellAt_8 : decode cX0_cellAt 8 = .ok (.invokestatic 13, 3) := by decide +kernel
theorem dX0_cellAt_11 : decode cX0_cellAt 11 = .ok (.ifCond .eq 12, 3) := by decide +kernel
theorem dX0_cellAt_14 : decode cX0_cellAt 14 = .ok (.bipush 8, 2) := by decide +kernel
theorem dX0_cellAt_16 : decode cX0_cellAt 16 = .ok (.iload_n 0, 1) := by decide +kernel
theorem dX0_cellAt_17 : decode cX0_cellAt 17 = .ok (.imul, 1) := by decide +kernel
theorem dX0_cellAt_18 : decode cX0_cellAt 18 = .ok (.iload_n 1, 1) := by decide +kernel
theorem dX0_cellAt_19 : decode cX0_cellAt 19 = .ok (.iadd, 1) := by decide +kernel
theorem dX0_cellAt_20 : decode cX0_cellAt 20 = .ok (.goto 4, 3) := by decide +kernel
theorem dX0_cellAt_23 : decode cX0_cellAt 23 = .ok (.iconst (-1), 1) := by decide +kernel
theorem dX0_cellAt_24 : decode cX0_cellAt 24 = .ok (.ireturn, 1) := by decide +kernel
theorem k_X0_cellAt : cardS yX0_cellAt (Cond.code yX0_cellAt cX0_cellAt 2 (some .int)) 2 := ⟨qs_X0_cellAt, qc_X0_cellAt, qn_X0, by decide +kernel, by decide +kernel, by decide +kernel⟩
set_option maxHeartbeats 4000000 in
set_option maxRecDepth 100000 in
theorem c_X0_cellAt (l : Launch) (D : va_G) (g : Nat → ClassId) (p0 p1 : Int32) (o : Int32) (h : F_X0_cellAt p0 p1 = some o) : MR l yX0_cellAt (Cond.code yX0_cellAt cX0_cellAt 2 (some .int)) { frames := 2, cells := 0, slots := 0, locals := 42 } D g [.int p0, .int p1] [] (some (.int o)) := by
  refine z_rd_start (by decide) (Nat.le_of_ble_eq_true rfl) ?_
  intro p e s m args below meth c Q X hr hQ
  refine z_lv (lv' := [(0, .int p0), (1, .int p1)]) rfl ?_
  refine z_iload_n X 0 dX0_cellAt_0 rfl rfl ?_
  obtain ⟨o1, e2, h⟩ := bnd_p h
  refine z_rdSN (rest := []) X IR_P k_X11_isLane (c_X11_isLane l D g p0 o1 e2) qlN_X0_X11_isLane dX0_cellAt_1 [] rfl rfl rfl ⟨Nat.le_of_ble_eq_true rfl, Nat.le_of_ble_eq_true rfl, rfl, rfl, Nat.le_of_ble_eq_true rfl, Nat.le_of_ble_eq_true rfl⟩ (Nat.le_of_ble_eq_true rfl) ?_
  refine z_if_eq X 23 dX0_cellAt_4 (by decide) h (fun _ h => ?_) (fun _ h => ?_)
  · refine z_iconst X ((-1) : Int32) dX0_cellAt_23 (by decide) ?_
    exact z_iretR X hQ hr dX0_cellAt_24 h
  · refine z_iload_n X 1 dX0_cellAt_7 rfl rfl ?_
    obtain ⟨o3, e4, h⟩ := bnd_p h
    refine z_rdSN (rest := []) X IR_P k_X11_isLane (c_X11_isLane l D g p1 o3 e4) qlN_X0_X11_isLane dX0_cellAt_8 [] rfl rfl rfl ⟨Nat.le_of_ble_eq_true rfl, Nat.le_of_ble_eq_true rfl, rfl, rfl, Nat.le_of_ble_eq_true rfl, Nat.le_of_ble_eq_true rfl⟩ (Nat.le_of_ble_eq_true rfl) ?_
    refine z_if_eq X 23 dX0_cellAt_11 (by decide) h (fun _ h => ?_) (fun _ h => ?_)
    · refine z_iconst X ((-1) : Int32) dX0_cellAt_23 (by decide) ?_
      exact z_iretR X hQ hr dX0_cellAt_24 h
    · refine z_bipush X (8 : Int32) dX0_cellAt_14 (by decide) ?_
      refine z_iload_n X 0 dX0_cellAt_16 rfl rfl ?_
      refine z_imul X dX0_cellAt_17 ?_
      refine z_iload_n X 1 dX0_cellAt_18 rfl rfl ?_
      refine z_iadd X dX0_cellAt_19 ?_
      refine z_goto X 24 dX0_cellAt_20 (by decide) ?_
      exact z_iretR X hQ hr dX0_cellAt_24 h

def F_X0_distance (p0 : Int32) (p1 : Int32) : Option (Int32) :=
  bnd (F_X0_rowOf p0) (fun o1 => bnd (F_X0_rowOf p1) (fun o3 => bnd (F_X0_columnOf p0) (fun o5 => bnd (F_X0_columnOf p1) (fun o7 => some ((if 0 ≤ (o1 - o3) then (o1 - o3) else 0 - (o1 - o3)) + (if 0 ≤ (o5 - o7) then (o5 - o7) else 0 - (o5 - o7)))))))
theorem dX0_distance_0 : decode cX0_distance 0 = .ok (.iload_n 0, 1) := by decide +kernel
theorem dX0_distance_1 : decode cX0_distance 1 = .ok (.invokestatic 17, 3) := by decide +kernel
theorem dX0_distance_4 : decode cX0_distance 4 = .ok (.iload_n 1, 1) := by decide +kernel
theorem dX0_distance_5 : decode cX0_distance 5 = .ok (.invokestatic 17, 3) := by decide +kernel
theorem dX0_distance_8 : decode cX0_distance 8 = .ok (.isub, 1) := by decide +kernel
theorem dX0_distance_9 : decode cX0_distance 9 = .ok (.invokestatic 23, 3) := by decide +kernel
theorem dX0_distance_12 : decode cX0_distance 12 = .ok (.iload_n 0, 1) := by decide +kernel
theorem dX0_distance_13 : decode cX0_distance 13 = .ok (.invokestatic 28, 3) := by decide +kernel
theorem dX0_distance_16 : decode cX0_distance 16 = .ok (.iload_n 1, 1) := by decide +kernel
theorem dX0_distance_17 : decode cX0_distance 17 = .ok (.invokestatic 28, 3) := by decide +kernel
theorem dX0_distance_20 : decode cX0_distance 20 = .ok (.isub, 1) := by decide +kernel
theorem dX0_distance_21 : decode cX0_distance 21 = .ok (.invokestatic 23, 3) := by decide +kernel
theorem dX0_distance_24 : decode cX0_distance 24 = .ok (.iadd, 1) := by decide +kernel
theorem dX0_distance_25 : decode cX0_distance 25 = .ok (.ireturn, 1) := by decide +kernel
theorem k_X0_distance : cardS yX0_distance (Cond.code yX0_distance cX0_distance 2 (some .int)) 2 := ⟨qs_X0_distance, qc_X0_distance, qn_X0, by decide +kernel, by decide +kernel, by decide +kernel⟩
set_option maxHeartbeats 4000000 in
set_option maxRecDepth 100000 in
theorem c_X0_distance (l : Launch) (D : va_G) (g : Nat → ClassId) (p0 p1 : Int32) (o : Int32) (h : F_X0_distance p0 p1 = some o) : MR l yX0_distance (Cond.code yX0_distance cX0_distance 2 (some .int)) { frames := 1, cells := 0, slots := 0, locals := 40 } D g [.int p0, .int p1] [] (some (.int o)) := by
  refine z_rd_start (by decide) (Nat.le_of_ble_eq_true rfl) ?_
  intro p e s m args below meth c Q X hr hQ
  refine z_lv (lv' := [(0, .int p0), (1, .int p1)]) rfl ?_
  refine z_iload_n X 0 dX0_distance_0 rfl rfl ?_
  obtain ⟨o1, e2, h⟩ := bnd_p h
  refine z_rdS (rest := []) X IR_P k_X0_rowOf (c_X0_rowOf l D g p0 o1 e2) ql_X0_X0_rowOf dX0_distance_1 [] rfl rfl rfl ⟨Nat.le_of_ble_eq_true rfl, Nat.le_of_ble_eq_true rfl, rfl, rfl, Nat.le_of_ble_eq_true rfl, Nat.le_of_ble_eq_true rfl⟩ (Nat.le_of_ble_eq_true rfl) ?_
  refine z_iload_n X 1 dX0_distance_4 rfl rfl ?_
  obtain ⟨o3, e4, h⟩ := bnd_p h
  refine z_rdS (rest := [.int o1]) X IR_P k_X0_rowOf (c_X0_rowOf l D g p1 o3 e4) ql_X0_X0_rowOf dX0_distance_5 [] rfl rfl rfl ⟨Nat.le_of_ble_eq_true rfl, Nat.le_of_ble_eq_true rfl, rfl, rfl, Nat.le_of_ble_eq_true rfl, Nat.le_of_ble_eq_true rfl⟩ (Nat.le_of_ble_eq_true rfl) ?_
  refine z_isub X dX0_distance_8 ?_
  refine z_mabs X ql_X0_mabs dX0_distance_9 (Nat.le_of_ble_eq_true rfl) (Nat.le_of_ble_eq_true rfl) (Nat.le_of_ble_eq_true rfl) (Nat.le_of_ble_eq_true rfl) ?_
  refine z_iload_n X 0 dX0_distance_12 rfl rfl ?_
  obtain ⟨o5, e6, h⟩ := bnd_p h
  refine z_rdS (rest := [.int (if 0 ≤ (o1 - o3) then (o1 - o3) else 0 - (o1 - o3))]) X IR_P k_X0_columnOf (c_X0_columnOf l D g p0 o5 e6) ql_X0_X0_columnOf dX0_distance_13 [] rfl rfl rfl ⟨Nat.le_of_ble_eq_true rfl, Nat.le_of_ble_eq_true rfl, rfl, rfl, Nat.le_of_ble_eq_true rfl, Nat.le_of_ble_eq_true rfl⟩ (Nat.le_of_ble_eq_true rfl) ?_
  refine z_iload_n X 1 dX0_distance_16 rfl rfl ?_
  obtain ⟨o7, e8, h⟩ := bnd_p h
  refine z_rdS (rest := [.int o5, .int (if 0 ≤ (o1 - o3) then (o1 - o3) else 0 - (o1 - o3))]) X IR_P k_X0_columnOf (c_X0_columnOf l D g p1 o7 e8) ql_X0_X0_columnOf dX0_distance_17 [] rfl rfl rfl ⟨Nat.le_of_ble_eq_true rfl, Nat.le_of_ble_eq_true rfl, rfl, rfl, Nat.le_of_ble_eq_true rfl, Nat.le_of_ble_eq_true rfl⟩ (Nat.le_of_ble_eq_true rfl) ?_
  refine z_isub X dX0_distance_20 ?_
  refine z_mabs X ql_X0_mabs dX0_distance_21 (Nat.le_of_ble_eq_true rfl) (Nat.le_of_ble_eq_true rfl) (Nat.le_of_ble_eq_true rfl) (Nat.le_of_ble_eq_true rfl) ?_
  refine z_iadd X dX0_distance_24 ?_
  exact z_iretR X hQ hr dX0_distance_25 h

def F_X7_at (n_p0 : Nat) (p1 : Int32) (a_p0 : Nat → Int32) : Option (Int32) :=
  brn (p1 < 0) (some (((-1) : Int32))) (brn ((Int32.ofNat n_p0) ≤ p1) (some (((-1) : Int32))) (grd (inb p1 n_p0) (some (a_p0 p1.toNatClampNeg))))
theorem dX7_at_0 : decode cX7_at 0 = .ok (.iload_n 1, 1) := by decide +kernel
theorem dX7_at_1 : decode cX7_at 1 = .ok (.ifCond .lt 15, 3) := by decide +kernel
theorem dX7_at_4 : decode cX7_at 4 = .ok (.iload_n 1, 1) := by decide +kernel
theorem dX7_at_5 : decode cX7_at 5 = .ok (.aload_n 0, 1) := by decide +kernel
theorem dX7_at_6 : decode cX7_at 6 = .ok (.arraylength, 1) := by decide +kernel
theorem dX7_at_7 : decode cX7_at 7 = .ok (.if_icmp .ge 9, 3) := by decide +kernel
theorem dX7_at_10 : decode cX7_at 10 = .ok (.aload_n 0, 1) := by decide +kernel
theorem dX7_at_11 : decode cX7_at 11 = .ok (.iload_n 1, 1) := by decide +kernel
theorem dX7_at_12 : decode cX7_at 12 = .ok (.iaload, 1) := by decide +kernel
theorem dX7_at_13 : decode cX7_at 13 = .ok (.goto 4, 3) := by decide +kernel
theorem dX7_at_16 : decode cX7_at 16 = .ok (.iconst (-1), 1) := by decide +kernel
theorem dX7_at_17 : decode cX7_at 17 = .ok (.ireturn, 1) := by decide +kernel
theorem k_X7_at : cardS yX7_at (Cond.code yX7_at cX7_at 2 (some .int)) 2 := ⟨qs_X7_at, qc_X7_at, qn_X7, by decide +kernel, by decide +kernel, by decide +kernel⟩
set_option maxHeartbeats 4000000 in
set_option maxRecDepth 100000 in
theorem c_X7_at (l : Launch) (D : va_G) (g : Nat → ClassId) (q_p0 : Nat) (n_p0 : Nat) (p1 : Int32) (a_p0 : Nat → Int32) (o : Int32) (h : F_X7_at n_p0 p1 a_p0 = some o) : MR l yX7_at (Cond.code yX7_at cX7_at 2 (some .int)) { frames := 0, cells := 0, slots := 0, locals := 0 } D g [.ref q_p0, .int p1] [(q_p0, .inl (g 0, n_p0, .inl a_p0))] (some (.int o)) := by
  refine z_rd_start (by decide) (Nat.le_of_ble_eq_true rfl) ?_
  intro p e s m args below meth c Q X hr hQ
  refine z_lv (lv' := [(0, .ref q_p0), (1, .int p1)]) rfl ?_
  refine z_iload_n X 1 dX7_at_0 rfl rfl ?_
  refine z_if_lt X 16 dX7_at_1 (by decide) h (fun _ h => ?_) (fun _ h => ?_)
  · refine z_iconst X ((-1) : Int32) dX7_at_16 (by decide) ?_
    exact z_iretR X hQ hr dX7_at_17 h
  · refine z_iload_n X 1 dX7_at_4 rfl rfl ?_
    refine z_aload_n X 0 dX7_at_5 rfl rfl ?_
    refine z_alen (q0 := 0) (v := Int32.ofNat n_p0) X IR_P 0 dX7_at_6 rfl rfl rfl ?_
    refine z_icmp_ge X 16 dX7_at_7 (by decide) h (fun _ h => ?_) (fun _ h => ?_)
    · refine z_iconst X ((-1) : Int32) dX7_at_16 (by decide) ?_
      exact z_iretR X hQ hr dX7_at_17 h
    · refine z_aload_n X 0 dX7_at_10 rfl rfl ?_
      refine z_iload_n X 1 dX7_at_11 rfl rfl ?_
      refine z_iald (q0 := 0) X IR_P dX7_at_12 rfl h (fun h => ?_)
      refine z_goto X 17 dX7_at_13 (by decide) ?_
      exact z_iretR X hQ hr dX7_at_17 h

def F_X7_put (n_p0 : Nat) (p1 : Int32) (p2 : Int32) (a_p0 : Nat → Int32) : Option ((Nat → Int32)) :=
  brn (p1 < 0) (some (a_p0)) (brn ((Int32.ofNat n_p0) ≤ p1) (some (a_p0)) (grd (inb p1 n_p0) (some ((upd a_p0 p1.toNatClampNeg p2)))))
theorem dX7_put_0 : decode cX7_put 0 = .ok (.iload_n 1, 1) := by decide +kernel
theorem dX7_put_1 : decode cX7_put 1 = .ok (.ifCond .lt 13, 3) := by decide +kernel
theorem dX7_put_4 : decode cX7_put 4 = .ok (.iload_n 1, 1) := by decide +kernel
theorem dX7_put_5 : decode cX7_put 5 = .ok (.aload_n 0, 1) := by decide +kernel
theorem dX7_put_6 : decode cX7_put 6 = .ok (.arraylength, 1) := by decide +kernel
theorem dX7_put_7 : decode cX7_put 7 = .ok (.if_icmp .ge 7, 3) := by decide +kernel
theorem dX7_put_10 : decode cX7_put 10 = .ok (.aload_n 0, 1) := by decide +kernel
theorem dX7_put_11 : decode cX7_put 11 = .ok (.iload_n 1, 1) := by decide +kernel
theorem dX7_put_12 : decode cX7_put 12 = .ok (.iload_n 2, 1) := by decide +kernel
theorem dX7_put_13 : decode cX7_put 13 = .ok (.iastore, 1) := by decide +kernel
theorem dX7_put_14 : decode cX7_put 14 = .ok (.return_, 1) := by decide +kernel
theorem k_X7_put : cardS yX7_put (Cond.code yX7_put cX7_put 3 none) 3 := ⟨qs_X7_put, qc_X7_put, qn_X7, by decide +kernel, by decide +kernel, by decide +kernel⟩
set_option maxHeartbeats 4000000 in
set_option maxRecDepth 100000 in
theorem c_X7_put (l : Launch) (D : va_G) (g : Nat → ClassId) (q_p0 : Nat) (n_p0 : Nat) (p1 p2 : Int32) (a_p0 : Nat → Int32) (o : (Nat → Int32)) (h : F_X7_put n_p0 p1 p2 a_p0 = some o) : MW l yX7_put (Cond.code yX7_put cX7_put 3 none) { frames := 0, cells := 0, slots := 0, locals := 0 } D g [.ref q_p0, .int p1, .int p2] [(q_p0, .inl (g 0, n_p0, .inl a_p0))] none [(q_p0, .inl (g 0, n_p0, .inl o))] := by
  refine z_wr_start (by decide) (Nat.le_of_ble_eq_true rfl) ?_
  intro p e s m args below meth c Q A X hr hQ hA
  refine z_lv (lv' := [(0, .ref q_p0), (1, .int p1), (2, .int p2)]) rfl ?_
  refine z_iload_n X 1 dX7_put_0 rfl rfl ?_
  refine z_if_lt X 14 dX7_put_1 (by decide) h (fun _ h => ?_) (fun _ h => ?_)
  · cases h
    exact z_vretW X hQ hA hr dX7_put_14
  · refine z_iload_n X 1 dX7_put_4 rfl rfl ?_
    refine z_aload_n X 0 dX7_put_5 rfl rfl ?_
    refine z_alen (q0 := 0) (v := Int32.ofNat n_p0) X IW_P 0 dX7_put_6 rfl rfl rfl ?_
    refine z_icmp_ge X 14 dX7_put_7 (by decide) h (fun _ h => ?_) (fun _ h => ?_)
    · cases h
      exact z_vretW X hQ hA hr dX7_put_14
    · refine z_aload_n X 0 dX7_put_10 rfl rfl ?_
      refine z_iload_n X 1 dX7_put_11 rfl rfl ?_
      refine z_iload_n X 2 dX7_put_12 rfl rfl ?_
      refine z_iast (q0 := 0) (ws' := [(q_p0, .inl (g 0, n_p0, .inl (upd a_p0 p1.toNatClampNeg p2)))]) X dX7_put_13 rfl h rfl (fun h => ?_)
      cases h
      exact z_vretW X hQ hA hr dX7_put_14

def L_X7_placeOf_2 (n_p0 : Nat) (p1 : Int32) (p2 : Int32) (a_p0 : Nat → Int32) : Nat → Int32 → Option (Int32)
  | 0, _ => none
  | _n + 1, x3 =>
    brn (p1 ≤ x3) (some (((-1) : Int32))) (brn ((Int32.ofNat n_p0) ≤ x3) (some (((-1) : Int32))) (grd (inb x3 n_p0) (brn ((a_p0 x3.toNatClampNeg) = p2) (some (x3)) (L_X7_placeOf_2 n_p0 p1 p2 a_p0 _n (x3 + 1)))))

def F_X7_placeOf (n_p0 : Nat) (p1 : Int32) (p2 : Int32) (a_p0 : Nat → Int32) : Option (Int32) :=
  L_X7_placeOf_2 n_p0 p1 p2 a_p0 100 (0 : Int32)
theorem dX7_placeOf_0 : decode cX7_placeOf 0 = .ok (.iconst 0, 1) := by decide +kernel
theorem dX7_placeOf_1 : decode cX7_placeOf 1 = .ok (.istore_n 3, 1) := by decide +kernel
theorem dX7_placeOf_2 : decode cX7_placeOf 2 = .ok (.iload_n 3, 1) := by decide +kernel
theorem dX7_placeOf_3 : decode cX7_placeOf 3 = .ok (.iload_n 1, 1) := by decide +kernel
theorem dX7_placeOf_4 : decode cX7_placeOf 4 = .ok (.if_icmp .ge 24, 3) := by decide +kernel
theorem dX7_placeOf_7 : decode cX7_placeOf 7 = .ok (.iload_n 3, 1) := by decide +kernel
theorem dX7_placeOf_8 : decode cX7_placeOf 8 = .ok (.aload_n 0, 1) := by decide +kernel
theorem dX7_placeOf_9 : decode cX7_placeOf 9 = .ok (.arraylength, 1) := by decide +kernel
theorem dX7_placeOf_10 : decode cX7_placeOf 10 = .ok (.if_icmp .ge 18, 3) := by decide +kernel
theorem dX7_placeOf_13 : decode cX7_placeOf 13 = .ok (.aload_n 0, 1) := by decide +kernel
theorem dX7_placeOf_14 : decode cX7_placeOf 14 = .ok (.iload_n 3, 1) := by decide +kernel
theorem dX7_placeOf_15 : decode cX7_placeOf 15 = .ok (.iaload, 1) := by decide +kernel
theorem dX7_placeOf_16 : decode cX7_placeOf 16 = .ok (.iload_n 2, 1) := by decide +kernel
theorem dX7_placeOf_17 : decode cX7_placeOf 17 = .ok (.if_icmp .ne 5, 3) := by decide +kernel
theorem dX7_placeOf_20 : decode cX7_placeOf 20 = .ok (.iload_n 3, 1) := by decide +kernel
theorem dX7_placeOf_21 : decode cX7_placeOf 21 = .ok (.ireturn, 1) := by decide +kernel
theorem dX7_placeOf_22 : decode cX7_placeOf 22 = .ok (.iinc 3 1, 3) := by decide +kernel
theorem dX7_placeOf_25 : decode cX7_placeOf 25 = .ok (.goto (-23), 3) := by decide +kernel
theorem dX7_placeOf_28 : decode cX7_placeOf 28 = .ok (.iconst (-1), 1) := by decide +kernel
theorem dX7_placeOf_29 : decode cX7_placeOf 29 = .ok (.ireturn, 1) := by decide +kernel
theorem k_X7_placeOf : cardS yX7_placeOf (Cond.code yX7_placeOf cX7_placeOf 4 (some .int)) 3 := ⟨qs_X7_placeOf, qc_X7_placeOf, qn_X7, by decide +kernel, by decide +kernel, by decide +kernel⟩
set_option maxHeartbeats 4000000 in
set_option maxRecDepth 100000 in
theorem c_X7_placeOf (l : Launch) (D : va_G) (g : Nat → ClassId) (q_p0 : Nat) (n_p0 : Nat) (p1 p2 : Int32) (a_p0 : Nat → Int32) (o : Int32) (h : F_X7_placeOf n_p0 p1 p2 a_p0 = some o) : MR l yX7_placeOf (Cond.code yX7_placeOf cX7_placeOf 4 (some .int)) { frames := 0, cells := 0, slots := 0, locals := 0 } D g [.ref q_p0, .int p1, .int p2] [(q_p0, .inl (g 0, n_p0, .inl a_p0))] (some (.int o)) := by
  refine z_rd_start (by decide) (Nat.le_of_ble_eq_true rfl) ?_
  intro p e s m args below meth c Q X hr hQ
  refine z_lv (lv' := [(0, .ref q_p0), (1, .int p1), (2, .int p2)]) rfl ?_
  have H2 : ∀ (n : Nat) (x3 : Int32), L_X7_placeOf_2 n_p0 p1 p2 a_p0  n x3 = some o → Z p l e { frames := 0, cells := 0, slots := 0, locals := 0 } s m args below meth c Q 4 0 0 (IR D [(q_p0, .inl (g 0, n_p0, .inl a_p0))] s) 2 [(0, .ref q_p0), (1, .int p1), (2, .int p2), (3, .int x3)] [] := by
    intro n
    induction n with
    | zero => intro x3 h; cases h
    | succ n2 ih2 =>
      intro x3 h
      refine z_iload_n X 3 dX7_placeOf_2 rfl rfl ?_
      refine z_iload_n X 1 dX7_placeOf_3 rfl rfl ?_
      refine z_icmp_ge X 28 dX7_placeOf_4 (by decide) h (fun _ h => ?_) (fun _ h => ?_)
      · refine z_iconst X ((-1) : Int32) dX7_placeOf_28 (by decide) ?_
        exact z_iretR X hQ hr dX7_placeOf_29 h
      · refine z_iload_n X 3 dX7_placeOf_7 rfl rfl ?_
        refine z_aload_n X 0 dX7_placeOf_8 rfl rfl ?_
        refine z_alen (q0 := 0) (v := Int32.ofNat n_p0) X IR_P 0 dX7_placeOf_9 rfl rfl rfl ?_
        refine z_icmp_ge X 28 dX7_placeOf_10 (by decide) h (fun _ h => ?_) (fun _ h => ?_)
        · refine z_iconst X ((-1) : Int32) dX7_placeOf_28 (by decide) ?_
          exact z_iretR X hQ hr dX7_placeOf_29 h
        · refine z_aload_n X 0 dX7_placeOf_13 rfl rfl ?_
          refine z_iload_n X 3 dX7_placeOf_14 rfl rfl ?_
          refine z_iald (q0 := 0) X IR_P dX7_placeOf_15 rfl h (fun h => ?_)
          refine z_iload_n X 2 dX7_placeOf_16 rfl rfl ?_
          refine z_icmp_ne X 22 dX7_placeOf_17 (by decide) h (fun _ h => ?_) (fun _ h => ?_)
          · refine z_iload_n X 3 dX7_placeOf_20 rfl rfl ?_
            exact z_iretR X hQ hr dX7_placeOf_21 h
          · refine z_iinc X 3 [(3, .int (x3 + 1)), (0, .ref q_p0), (1, .int p1), (2, .int p2)] dX7_placeOf_22 rfl rfl (by decide) rfl ?_
            refine z_goto X 2 dX7_placeOf_25 (by decide) ?_
            refine z_sub (lv' := [(0, .ref q_p0), (1, .int p1), (2, .int p2), (3, .int (x3 + 1))]) [1, 2, 3, 0] rfl ?_
            exact ih2 (x3 + 1) h
  refine z_iconst X (0 : Int32) dX7_placeOf_0 (by decide) ?_
  refine z_istore_n X [(3, .int (0 : Int32)), (0, .ref q_p0), (1, .int p1), (2, .int p2)] dX7_placeOf_1 rfl (by decide) rfl ?_
  refine z_sub (lv' := [(0, .ref q_p0), (1, .int p1), (2, .int p2), (3, .int (0 : Int32))]) [1, 2, 3, 0] rfl ?_
  exact H2 100 (0 : Int32) h

def F_X2_on (p1 : Int32) (f_size : Int32) (a_cells : Nat → Int32) : Option (Int32) :=
  bnd (F_X7_placeOf 10 f_size p1 a_cells) (fun o1 => some (o1))
theorem dX2_on_0 : decode cX2_on 0 = .ok (.aload_n 0, 1) := by decide +kernel
theorem dX2_on_1 : decode cX2_on 1 = .ok (.getfield 9, 3) := by decide +kernel
theorem dX2_on_4 : decode cX2_on 4 = .ok (.aload_n 0, 1) := by decide +kernel
theorem dX2_on_5 : decode cX2_on 5 = .ok (.getfield 27, 3) := by decide +kernel
theorem dX2_on_8 : decode cX2_on 8 = .ok (.iload_n 1, 1) := by decide +kernel
theorem dX2_on_9 : decode cX2_on 9 = .ok (.invokestatic 31, 3) := by decide +kernel
theorem dX2_on_12 : decode cX2_on 12 = .ok (.ireturn, 1) := by decide +kernel
theorem k_X2_on : cardV yX2_on (Cond.code yX2_on cX2_on 2 (some .int)) 1 := ⟨⟨qi_X2_on, qv_X2_on⟩, qc_X2_on, qn_X2, by decide +kernel, by decide +kernel, by decide +kernel⟩
set_option maxHeartbeats 4000000 in
set_option maxRecDepth 100000 in
theorem c_X2_on (l : Launch) (D : va_G) (g : Nat → ClassId) (q_this q_cells q_froms q_tos q_rings q_pranks : Nat) (p1 : Int32) (f_size : Int32) (a_cells : Nat → Int32) (o : Int32) (h : F_X2_on p1 f_size a_cells = some o) : MR l yX2_on (Cond.code yX2_on cX2_on 2 (some .int)) { frames := 1, cells := 0, slots := 0, locals := 23 } D g [.ref q_this, .int p1] [(q_this, .inr (3, [.int f_size, .ref q_cells, .ref q_froms, .ref q_tos, .ref q_rings, .ref q_pranks])), (q_cells, .inl (g 0, 10, .inl a_cells))] (some (.int o)) := by
  refine z_rd_start (by decide) (Nat.le_of_ble_eq_true rfl) ?_
  intro p e s m args below meth c Q X hr hQ
  refine z_lv (lv' := [(0, .ref q_this), (1, .int p1)]) rfl ?_
  refine z_aload_n X 0 dX2_on_0 rfl rfl ?_
  refine z_get (q0 := 0) (k := 1) (ci := 3) X IR_P iw_X2 rfl qf_X2_X2_cells (by decide) dX2_on_1 rfl rfl ?_
  refine z_aload_n X 0 dX2_on_4 rfl rfl ?_
  refine z_get (q0 := 0) (k := 0) (ci := 3) X IR_P iw_X2 rfl qf_X2_X2_size (by decide) dX2_on_5 rfl rfl ?_
  refine z_iload_n X 1 dX2_on_8 rfl rfl ?_
  obtain ⟨o1, e2, h⟩ := bnd_p h
  refine z_rdS (rest := []) X IR_P k_X7_placeOf (c_X7_placeOf l D g q_cells 10 f_size p1 a_cells o1 e2) ql_X2_X7_placeOf dX2_on_9 [1] rfl rfl rfl ⟨Nat.le_of_ble_eq_true rfl, Nat.le_of_ble_eq_true rfl, rfl, rfl, Nat.le_of_ble_eq_true rfl, Nat.le_of_ble_eq_true rfl⟩ (Nat.le_of_ble_eq_true rfl) ?_
  exact z_iretR X hQ hr dX2_on_12 h

def F_X2_cellAt (p1 : Int32) (a_cells : Nat → Int32) : Option (Int32) :=
  bnd (F_X7_at 10 p1 a_cells) (fun o1 => some (o1))
theorem dX2_cellAt_0 : decode cX2_cellAt 0 = .ok (.aload_n 0, 1) := by decide +kernel
theorem dX2_cellAt_1 : decode cX2_cellAt 1 = .ok (.getfield 9, 3) := by decide +kernel
theorem dX2_cellAt_4 : decode cX2_cellAt 4 = .ok (.iload_n 1, 1) := by decide +kernel
theorem dX2_cellAt_5 : decode cX2_cellAt 5 = .ok (.invokestatic 37, 3) := by decide +kernel
theorem dX2_cellAt_8 : decode cX2_cellAt 8 = .ok (.ireturn, 1) := by decide +kernel
theorem k_X2_cellAt : cardV yX2_cellAt (Cond.code yX2_cellAt cX2_cellAt 2 (some .int)) 1 := ⟨⟨qi_X2_cellAt, qv_X2_cellAt⟩, qc_X2_cellAt, qn_X2, by decide +kernel, by decide +kernel, by decide +kernel⟩
set_option maxHeartbeats 4000000 in
set_option maxRecDepth 100000 in
theorem c_X2_cellAt (l : Launch) (D : va_G) (g : Nat → ClassId) (q_this q_cells q_froms q_tos q_rings q_pranks : Nat) (p1 : Int32) (f_size : Int32) (a_cells : Nat → Int32) (o : Int32) (h : F_X2_cellAt p1 a_cells = some o) : MR l yX2_cellAt (Cond.code yX2_cellAt cX2_cellAt 2 (some .int)) { frames := 1, cells := 0, slots := 0, locals := 21 } D g [.ref q_this, .int p1] [(q_this, .inr (3, [.int f_size, .ref q_cells, .ref q_froms, .ref q_tos, .ref q_rings, .ref q_pranks])), (q_cells, .inl (g 0, 10, .inl a_cells))] (some (.int o)) := by
  refine z_rd_start (by decide) (Nat.le_of_ble_eq_true rfl) ?_
  intro p e s m args below meth c Q X hr hQ
  refine z_lv (lv' := [(0, .ref q_this), (1, .int p1)]) rfl ?_
  refine z_aload_n X 0 dX2_cellAt_0 rfl rfl ?_
  refine z_get (q0 := 0) (k := 1) (ci := 3) X IR_P iw_X2 rfl qf_X2_X2_cells (by decide) dX2_cellAt_1 rfl rfl ?_
  refine z_iload_n X 1 dX2_cellAt_4 rfl rfl ?_
  obtain ⟨o1, e2, h⟩ := bnd_p h
  refine z_rdS (rest := []) X IR_P k_X7_at (c_X7_at l D g q_cells 10 p1 a_cells o1 e2) ql_X2_X7_at dX2_cellAt_5 [1] rfl rfl rfl ⟨Nat.le_of_ble_eq_true rfl, Nat.le_of_ble_eq_true rfl, rfl, rfl, Nat.le_of_ble_eq_true rfl, Nat.le_of_ble_eq_true rfl⟩ (Nat.le_of_ble_eq_true rfl) ?_
  exact z_iretR X hQ hr dX2_cellAt_8 h

def L_X7_sum_10 (n_p0 : Nat) (a_p0 : Nat → Int32) : Nat → Int32 → Int32 → Int32 → Option (Int32)
  | 0, _, _, _ => none
  | _n + 1, x1, x3, x4 =>
    brn (x3 ≤ x4) (some (x1)) (grd (inb x4 n_p0) (L_X7_sum_10 n_p0 a_p0 _n (x1 + (a_p0 x4.toNatClampNeg)) x3 (x4 + 1)))

def F_X7_sum (n_p0 : Nat) (a_p0 : Nat → Int32) : Option (Int32) :=
  L_X7_sum_10 n_p0 a_p0 100 (0 : Int32) (Int32.ofNat n_p0) (0 : Int32)
theorem dX7_sum_0 : decode cX7_sum 0 = .ok (.iconst 0, 1) := by decide +kernel
theorem dX7_sum_1 : decode cX7_sum 1 = .ok (.istore_n 1, 1) := by decide +kernel
theorem dX7_sum_2 : decode cX7_sum 2 = .ok (.aload_n 0, 1) := by decide +kernel
theorem dX7_sum_3 : decode cX7_sum 3 = .ok (.astore_n 2, 1) := by decide +kernel
theorem dX7_sum_4 : decode cX7_sum 4 = .ok (.aload_n 2, 1) := by decide +kernel
theorem dX7_sum_5 : decode cX7_sum 5 = .ok (.arraylength, 1) := by decide +kernel
theorem dX7_sum_6 : decode cX7_sum 6 = .ok (.istore_n 3, 1) := by decide +kernel
theorem dX7_sum_7 : decode cX7_sum 7 = .ok (.iconst 0, 1) := by decide +kernel
theorem dX7_sum_8 : decode cX7_sum 8 = .ok (.istore 4, 2) := by decide +kernel
theorem dX7_sum_10 : decode cX7_sum 10 = .ok (.iload 4, 2) := by decide +kernel
theorem dX7_sum_12 : decode cX7_sum 12 = .ok (.iload_n 3, 1) := by decide +kernel
theorem dX7_sum_13 : decode cX7_sum 13 = .ok (.if_icmp .ge 20, 3) := by decide +kernel
theorem dX7_sum_16 : decode cX7_sum 16 = .ok (.aload_n 2, 1) := by decide +kernel
theorem dX7_sum_17 : decode cX7_sum 17 = .ok (.iload 4, 2) := by decide +kernel
theorem dX7_sum_19 : decode cX7_sum 19 = .ok (.iaload, 1) := by decide +kernel
theorem dX7_sum_20 : decode cX7_sum 20 = .ok (.istore 5, 2) := by decide +kernel
theorem dX7_sum_22 : decode cX7_sum 22 = .ok (.iload_n 1, 1) := by decide +kernel
theorem dX7_sum_23 : decode cX7_sum 23 = .ok (.iload 5, 2) := by decide +kernel
theorem dX7_sum_25 : decode cX7_sum 25 = .ok (.iadd, 1) := by decide +kernel
theorem dX7_sum_26 : decode cX7_sum 26 = .ok (.istore_n 1, 1) := by decide +kernel
theorem dX7_sum_27 : decode cX7_sum 27 = .ok (.iinc 4 1, 3) := by decide +kernel
theorem dX7_sum_30 : decode cX7_sum 30 = .ok (.goto (-20), 3) := by decide +kernel
theorem dX7_sum_33 : decode cX7_sum 33 = .ok (.iload_n 1, 1) := by decide +kernel
theorem dX7_sum_34 : decode cX7_sum 34 = .ok (.ireturn, 1) := by decide +kernel
theorem k_X7_sum : cardS yX7_sum (Cond.code yX7_sum cX7_sum 6 (some .int)) 1 := ⟨qs_X7_sum, qc_X7_sum, qn_X7, by decide +kernel, by decide +kernel, by decide +kernel⟩
set_option maxHeartbeats 4000000 in
set_option maxRecDepth 100000 in
theorem c_X7_sum (l : Launch) (D : va_G) (g : Nat → ClassId) (q_p0 : Nat) (n_p0 : Nat) (a_p0 : Nat → Int32) (o : Int32) (h : F_X7_sum n_p0 a_p0 = some o) : MR l yX7_sum (Cond.code yX7_sum cX7_sum 6 (some .int)) { frames := 0, cells := 0, slots := 0, locals := 0 } D g [.ref q_p0] [(q_p0, .inl (g 0, n_p0, .inl a_p0))] (some (.int o)) := by
  refine z_rd_start (by decide) (Nat.le_of_ble_eq_true rfl) ?_
  intro p e s m args below meth c Q X hr hQ
  refine z_lv (lv' := [(0, .ref q_p0)]) rfl ?_
  have H10 : ∀ (n : Nat) (x1 : Int32) (x3 : Int32) (x4 : Int32), L_X7_sum_10 n_p0 a_p0  n x1 x3 x4 = some o → Z p l e { frames := 0, cells := 0, slots := 0, locals := 0 } s m args below meth c Q 6 0 0 (IR D [(q_p0, .inl (g 0, n_p0, .inl a_p0))] s) 10 [(1, .int x1), (2, .ref q_p0), (3, .int x3), (4, .int x4)] [] := by
    intro n
    induction n with
    | zero => intro x1 x3 x4 h; cases h
    | succ n10 ih10 =>
      intro x1 x3 x4 h
      refine z_iload X 3 dX7_sum_10 rfl ?_
      refine z_iload_n X 2 dX7_sum_12 rfl rfl ?_
      refine z_icmp_ge X 33 dX7_sum_13 (by decide) h (fun _ h => ?_) (fun _ h => ?_)
      · refine z_iload_n X 0 dX7_sum_33 rfl rfl ?_
        exact z_iretR X hQ hr dX7_sum_34 h
      · refine z_aload_n X 1 dX7_sum_16 rfl rfl ?_
        refine z_iload X 3 dX7_sum_17 rfl ?_
        refine z_iald (q0 := 0) X IR_P dX7_sum_19 rfl h (fun h => ?_)
        refine z_istore X [(5, .int (a_p0 x4.toNatClampNeg)), (1, .int x1), (2, .ref q_p0), (3, .int x3), (4, .int x4)] dX7_sum_20 (by decide) rfl ?_
        refine z_iload_n X 1 dX7_sum_22 rfl rfl ?_
        refine z_iload X 0 dX7_sum_23 rfl ?_
        refine z_iadd X dX7_sum_25 ?_
        refine z_istore_n X [(1, .int (x1 + (a_p0 x4.toNatClampNeg))), (5, .int (a_p0 x4.toNatClampNeg)), (2, .ref q_p0), (3, .int x3), (4, .int x4)] dX7_sum_26 rfl (by decide) rfl ?_
        refine z_iinc X 4 [(4, .int (x4 + 1)), (1, .int (x1 + (a_p0 x4.toNatClampNeg))), (5, .int (a_p0 x4.toNatClampNeg)), (2, .ref q_p0), (3, .int x3)] dX7_sum_27 rfl rfl (by decide) rfl ?_
        refine z_goto X 10 dX7_sum_30 (by decide) ?_
        refine z_sub (lv' := [(1, .int (x1 + (a_p0 x4.toNatClampNeg))), (2, .ref q_p0), (3, .int x3), (4, .int (x4 + 1))]) [1, 3, 4, 0] rfl ?_
        exact ih10 (x1 + (a_p0 x4.toNatClampNeg)) x3 (x4 + 1) h
  refine z_iconst X (0 : Int32) dX7_sum_0 (by decide) ?_
  refine z_istore_n X [(1, .int (0 : Int32)), (0, .ref q_p0)] dX7_sum_1 rfl (by decide) rfl ?_
  refine z_aload_n X 1 dX7_sum_2 rfl rfl ?_
  refine z_astore_n X [(2, .ref q_p0), (1, .int (0 : Int32)), (0, .ref q_p0)] dX7_sum_3 rfl (by decide) rfl ?_
  refine z_aload_n X 0 dX7_sum_4 rfl rfl ?_
  refine z_alen (q0 := 0) (v := Int32.ofNat n_p0) X IR_P 0 dX7_sum_5 rfl rfl rfl ?_
  refine z_istore_n X [(3, .int (Int32.ofNat n_p0)), (2, .ref q_p0), (1, .int (0 : Int32)), (0, .ref q_p0)] dX7_sum_6 rfl (by decide) rfl ?_
  refine z_iconst X (0 : Int32) dX7_sum_7 (by decide) ?_
  refine z_istore X [(4, .int (0 : Int32)), (3, .int (Int32.ofNat n_p0)), (2, .ref q_p0), (1, .int (0 : Int32)), (0, .ref q_p0)] dX7_sum_8 (by decide) rfl ?_
  refine z_sub (lv' := [(1, .int (0 : Int32)), (2, .ref q_p0), (3, .int (Int32.ofNat n_p0)), (4, .int (0 : Int32))]) [3, 2, 1, 0] rfl ?_
  exact H10 100 (0 : Int32) (Int32.ofNat n_p0) (0 : Int32) h

def L_X7_closeGap_2 (n_p0 : Nat) (p1 : Int32) : Nat → Int32 → (Nat → Int32) → Option ((Nat → Int32))
  | 0, _, _ => none
  | _n + 1, x2, a_p0 =>
    brn ((Int32.ofNat n_p0) ≤ (x2 + (1 : Int32))) (some (a_p0)) (brn (x2 < p1) (L_X7_closeGap_2 n_p0 p1 _n (x2 + 1) a_p0) (grd (inb (x2 + (1 : Int32)) n_p0) (grd (inb x2 n_p0) (L_X7_closeGap_2 n_p0 p1 _n (x2 + 1) (upd a_p0 x2.toNatClampNeg (a_p0 (x2 + (1 : Int32)).toNatClampNeg))))))

def F_X7_closeGap (n_p0 : Nat) (p1 : Int32) (a_p0 : Nat → Int32) : Option ((Nat → Int32)) :=
  L_X7_closeGap_2 n_p0 p1 100 (0 : Int32) a_p0
theorem dX7_closeGap_0 : decode cX7_closeGap 0 = .ok (.iconst 0, 1) := by decide +kernel
theorem dX7_closeGap_1 : decode cX7_closeGap 1 = .ok (.istore_n 2, 1) := by decide +kernel
theorem dX7_closeGap_2 : decode cX7_closeGap 2 = .ok (.iload_n 2, 1) := by decide +kernel
theorem dX7_closeGap_3 : decode cX7_closeGap 3 = .ok (.iconst 1, 1) := by decide +kernel
theorem dX7_closeGap_4 : decode cX7_closeGap 4 = .ok (.iadd, 1) := by decide +kernel
theorem dX7_closeGap_5 : decode cX7_closeGap 5 = .ok (.aload_n 0, 1) := by decide +kernel
theorem dX7_closeGap_6 : decode cX7_closeGap 6 = .ok (.arraylength, 1) := by decide +kernel
theorem dX7_closeGap_7 : decode cX7_closeGap 7 = .ok (.if_icmp .ge 22, 3) := by decide +kernel
theorem dX7_closeGap_10 : decode cX7_closeGap 10 = .ok (.iload_n 2, 1) := by decide +kernel
theorem dX7_closeGap_11 : decode cX7_closeGap 11 = .ok (.iload_n 1, 1) := by decide +kernel
theorem dX7_closeGap_12 : decode cX7_closeGap 12 = .ok (.if_icmp .lt 11, 3) := by decide +kernel
theorem dX7_closeGap_15 : decode cX7_closeGap 15 = .ok (.aload_n 0, 1) := by decide +kernel
theorem dX7_closeGap_16 : decode cX7_closeGap 16 = .ok (.iload_n 2, 1) := by decide +kernel
theorem dX7_closeGap_17 : decode cX7_closeGap 17 = .ok (.aload_n 0, 1) := by decide +kernel
theorem dX7_closeGap_18 : decode cX7_closeGap 18 = .ok (.iload_n 2, 1) := by decide +kernel
theorem dX7_closeGap_19 : decode cX7_closeGap 19 = .ok (.iconst 1, 1) := by decide +kernel
theorem dX7_closeGap_20 : decode cX7_closeGap 20 = .ok (.iadd, 1) := by decide +kernel
theorem dX7_closeGap_21 : decode cX7_closeGap 21 = .ok (.iaload, 1) := by decide +kernel
theorem dX7_closeGap_22 : decode cX7_closeGap 22 = .ok (.iastore, 1) := by decide +kernel
theorem dX7_closeGap_23 : decode cX7_closeGap 23 = .ok (.iinc 2 1, 3) := by decide +kernel
theorem dX7_closeGap_26 : decode cX7_closeGap 26 = .ok (.goto (-24), 3) := by decide +kernel
theorem dX7_closeGap_29 : decode cX7_closeGap 29 = .ok (.return_, 1) := by decide +kernel
theorem k_X7_closeGap : cardS yX7_closeGap (Cond.code yX7_closeGap cX7_closeGap 3 none) 2 := ⟨qs_X7_closeGap, qc_X7_closeGap, qn_X7, by decide +kernel, by decide +kernel, by decide +kernel⟩
set_option maxHeartbeats 4000000 in
set_option maxRecDepth 100000 in
theorem c_X7_closeGap (l : Launch) (D : va_G) (g : Nat → ClassId) (q_p0 : Nat) (n_p0 : Nat) (p1 : Int32) (a_p0 : Nat → Int32) (o : (Nat → Int32)) (h : F_X7_closeGap n_p0 p1 a_p0 = some o) : MW l yX7_closeGap (Cond.code yX7_closeGap cX7_closeGap 3 none) { frames := 0, cells := 0, slots := 0, locals := 0 } D g [.ref q_p0, .int p1] [(q_p0, .inl (g 0, n_p0, .inl a_p0))] none [(q_p0, .inl (g 0, n_p0, .inl o))] := by
  refine z_wr_start (by decide) (Nat.le_of_ble_eq_true rfl) ?_
  intro p e s m args below meth c Q A X hr hQ hA
  refine z_lv (lv' := [(0, .ref q_p0), (1, .int p1)]) rfl ?_
  have H2 : ∀ (n : Nat) (x2 : Int32) (a_p0 : Nat → Int32), L_X7_closeGap_2 n_p0 p1  n x2 a_p0 = some o → Z p l e { frames := 0, cells := 0, slots := 0, locals := 0 } s m args below meth c Q 3 0 0 (IW D A s [(q_p0, .inl (g 0, n_p0, .inl a_p0))]) 2 [(0, .ref q_p0), (1, .int p1), (2, .int x2)] [] := by
    intro n
    induction n with
    | zero => intro x2 a_p0 h; cases h
    | succ n2 ih2 =>
      intro x2 a_p0 h
      refine z_iload_n X 2 dX7_closeGap_2 rfl rfl ?_
      refine z_iconst X (1 : Int32) dX7_closeGap_3 (by decide) ?_
      refine z_iadd X dX7_closeGap_4 ?_
      refine z_aload_n X 0 dX7_closeGap_5 rfl rfl ?_
      refine z_alen (q0 := 0) (v := Int32.ofNat n_p0) X IW_P 0 dX7_closeGap_6 rfl rfl rfl ?_
      refine z_icmp_ge X 29 dX7_closeGap_7 (by decide) h (fun _ h => ?_) (fun _ h => ?_)
      · cases h
        exact z_vretW X hQ hA hr dX7_closeGap_29
      · refine z_iload_n X 2 dX7_closeGap_10 rfl rfl ?_
        refine z_iload_n X 1 dX7_closeGap_11 rfl rfl ?_
        refine z_icmp_lt X 23 dX7_closeGap_12 (by decide) h (fun _ h => ?_) (fun _ h => ?_)
        · refine z_iinc X 2 [(2, .int (x2 + 1)), (0, .ref q_p0), (1, .int p1)] dX7_closeGap_23 rfl rfl (by decide) rfl ?_
          refine z_goto X 2 dX7_closeGap_26 (by decide) ?_
          refine z_sub (lv' := [(0, .ref q_p0), (1, .int p1), (2, .int (x2 + 1))]) [1, 2, 0] rfl ?_
          exact ih2 (x2 + 1) a_p0 h
        · refine z_aload_n X 0 dX7_closeGap_15 rfl rfl ?_
          refine z_iload_n X 2 dX7_closeGap_16 rfl rfl ?_
          refine z_aload_n X 0 dX7_closeGap_17 rfl rfl ?_
          refine z_iload_n X 2 dX7_closeGap_18 rfl rfl ?_
          refine z_iconst X (1 : Int32) dX7_closeGap_19 (by decide) ?_
          refine z_iadd X dX7_closeGap_20 ?_
          refine z_iald (q0 := 0) X IW_P dX7_closeGap_21 rfl h (fun h => ?_)
          refine z_iast (q0 := 0) (ws' := [(q_p0, .inl (g 0, n_p0, .inl (upd a_p0 x2.toNatClampNeg (a_p0 (x2 + (1 : Int32)).toNatClampNeg))))]) X dX7_closeGap_22 rfl h rfl (fun h => ?_)
          refine z_iinc X 2 [(2, .int (x2 + 1)), (0, .ref q_p0), (1, .int p1)] dX7_closeGap_23 rfl rfl (by decide) rfl ?_
          refine z_goto X 2 dX7_closeGap_26 (by decide) ?_
          refine z_sub (lv' := [(0, .ref q_p0), (1, .int p1), (2, .int (x2 + 1))]) [1, 2, 0] rfl ?_
          exact ih2 (x2 + 1) (upd a_p0 x2.toNatClampNeg (a_p0 (x2 + (1 : Int32)).toNatClampNeg)) h
  refine z_iconst X (0 : Int32) dX7_closeGap_0 (by decide) ?_
  refine z_istore_n X [(2, .int (0 : Int32)), (0, .ref q_p0), (1, .int p1)] dX7_closeGap_1 rfl (by decide) rfl ?_
  refine z_sub (lv' := [(0, .ref q_p0), (1, .int p1), (2, .int (0 : Int32))]) [1, 2, 0] rfl ?_
  exact H2 100 (0 : Int32) a_p0 h
