def F_X2_cellAt (p1 : Int32) (a_cells : Nat → Int32) : Option (Int32) :=
  bnd (F_X7_at 10 p1 a_cells) (fun o1 => some (o1))
theorem dX2_cellAt_0 : decode cX2_cellAt 0 = .ok (.aload_n 0, 1) := by decide +kernel
theorem dX2_cellAt_1 : decode cX2_cellAt 1 = .ok (.getfield 9, 3) := by decide +kernel
theorem dX2_cellAt_4 : decode cX2_cellAt 4 = .ok (.iload_n 1, 1) := by decide +kernel
theorem dX2_cellAt_5 : decode cX2_cellAt 5 = .ok (.invokestatic 37, 3) := by decide +kernel
theorem dX2_cellAt_8 : decode cX2_cellAt 8 = .ok (.ireturn, 1) := by decide +kernel
theorem k_X2_cellAt : cardV yX2_cellAt (Cond.code yX2_cellAt cX2_cellAt 2 (some .int)) 1 := ⟨⟨qi_X2_cellAt, qv_X2_cellAt⟩, qc_X2_cellAt, qn_X2, by decide +kernel, by decide +kernel, by decide +kernel⟩
set_option maxHeartbeats 4000000 in
set_option maxRecDepth 100000 in
theorem c_X2_cellAt (l : Launch) (D : va_G) (g : Nat → ClassId) (q_this q_cells q_froms q_tos q_rings q_pranks : Nat) (p1 : Int32) (f_size : Int32) (a_cells : Nat → Int32) (o : Int32) (h : F_X2_cellAt p1 a_cells = some o) : MR l yX2_cellAt (Cond.code yX2_cellAt cX2_cellAt 2 (some .int)) { frames := 1, cells := 0, slots := 0, locals := 21 } D g [.ref q_this, .int p1] [(q_this, .inr (3, [.int f_size, .ref q_cells, .ref q_froms, .ref q_tos, .ref q_rings, .ref q_pranks])), (q_cells, .inl (g 0, 10, .inl a_cells))] (some (.int o)) := by
  refine z_rd_start (by decide) (Nat.le_of_ble_eq_true rfl) ?_
  intro p e s m args below meth c Q X hr hQ
  refine z_lv (lv' := [(0, .ref q_this), (1, .int p1)]) rfl ?_
  refine z_aload_n X 0 dX2_cellAt_0 rfl rfl ?_
  refine z_get (q0 := 0) (k := 1) (ci := 3) X IR_P iw_X2 rfl qf_X2_X2_cells (by decide) dX2_cellAt_1 rfl rfl ?_
  refine z_iload_n X 1 dX2_cellAt_4 rfl rfl ?_
  obtain ⟨o1, e2, h⟩ := bnd_p h
  refine z_rdS (rest := []) X IR_P k_X7_at (c_X7_at l D g q_cells 10 p1 a_cells o1 e2) ql_X2_X7_at dX2_cellAt_5 [1] rfl rfl rfl ⟨Nat.le_of_ble_eq_true rfl, Nat.le_of_ble_eq_true rfl, rfl, rfl, Nat.le_of_ble_eq_true rfl, Nat.le_of_ble_eq_true rfl⟩ (Nat.le_of_ble_eq_true rfl) ?_
  exact z_iretR X hQ hr dX2_cellAt_8 h

def F_X2_fromAt (p1 : Int32) (a_froms : Nat → Int32) : Option (Int32) :=
  bnd (F_X7_at 10 p1 a_froms) (fun o1 => some (o1))
theorem dX2_fromAt_0 : decode cX2_fromAt 0 = .ok (.aload_n 0, 1) := by decide +kernel
theorem dX2_fromAt_1 : decode cX2_fromAt 1 = .ok (.getfield 15, 3) := by decide +kernel
theorem dX2_fromAt_4 : decode cX2_fromAt 4 = .ok (.iload_n 1, 1) := by decide +kernel
theorem dX2_fromAt_5 : decode cX2_fromAt 5 = .ok (.invokestatic 37, 3) := by decide +kernel
theorem dX2_fromAt_8 : decode cX2_fromAt 8 = .ok (.ireturn, 1) := by decide +kernel
theorem k_X2_fromAt : cardV yX2_fromAt (Cond.code yX2_fromAt cX2_fromAt 2 (some .int)) 1 := ⟨⟨qi_X2_fromAt, qv_X2_fromAt⟩, qc_X2_fromAt, qn_X2, by decide +kernel, by decide +kernel, by decide +kernel⟩
set_option maxHeartbeats 4000000 in
set_option maxRecDepth 100000 in
theorem c_X2_fromAt (l : Launch) (D : va_G) (g : Nat → ClassId) (q_this q_cells q_froms q_tos q_rings q_pranks : Nat) (p1 : Int32) (f_size : Int32) (a_froms : Nat → Int32) (o : Int32) (h : F_X2_fromAt p1 a_froms = some o) : MR l yX2_fromAt (Cond.code yX2_fromAt cX2_fromAt 2 (some .int)) { frames := 1, cells := 0, slots := 0, locals := 21 } D g [.ref q_this, .int p1] [(q_this, .inr (3, [.int f_size, .ref q_cells, .ref q_froms, .ref q_tos, .ref q_rings, .ref q_pranks])), (q_froms, .inl (g 0, 10, .inl a_froms))] (some (.int o)) := by
  refine z_rd_start (by decide) (Nat.le_of_ble_eq_true rfl) ?_
  intro p e s m args below meth c Q X hr hQ
  refine z_lv (lv' := [(0, .ref q_this), (1, .int p1)]) rfl ?_
  refine z_aload_n X 0 dX2_fromAt_0 rfl rfl ?_
  refine z_get (q0 := 0) (k := 2) (ci := 3) X IR_P iw_X2 rfl qf_X2_X2_froms (by decide) dX2_fromAt_1 rfl rfl ?_
  refine z_iload_n X 1 dX2_fromAt_4 rfl rfl ?_
  obtain ⟨o1, e2, h⟩ := bnd_p h
  refine z_rdS (rest := []) X IR_P k_X7_at (c_X7_at l D g q_froms 10 p1 a_froms o1 e2) ql_X2_X7_at dX2_fromAt_5 [1] rfl rfl rfl ⟨Nat.le_of_ble_eq_true rfl, Nat.le_of_ble_eq_true rfl, rfl, rfl, Nat.le_of_ble_eq_true rfl, Nat.le_of_ble_eq_true rfl⟩ (Nat.le_of_ble_eq_true rfl) ?_
  exact z_iretR X hQ hr dX2_fromAt_8 h

def F_X2_toAt (p1 : Int32) (a_tos : Nat → Int32) : Option (Int32) :=
  bnd (F_X7_at 10 p1 a_tos) (fun o1 => some (o1))
theorem dX2_toAt_0 : decode cX2_toAt 0 = .ok (.aload_n 0, 1) := by decide +kernel
theorem dX2_toAt_1 : decode cX2_toAt 1 = .ok (.getfield 18, 3) := by decide +kernel
theorem dX2_toAt_4 : decode cX2_toAt 4 = .ok (.iload_n 1, 1) := by decide +kernel
theorem dX2_toAt_5 : decode cX2_toAt 5 = .ok (.invokestatic 37, 3) := by decide +kernel
theorem dX2_toAt_8 : decode cX2_toAt 8 = .ok (.ireturn, 1) := by decide +kernel
theorem k_X2_toAt : cardV yX2_toAt (Cond.code yX2_toAt cX2_toAt 2 (some .int)) 1 := ⟨⟨qi_X2_toAt, qv_X2_toAt⟩, qc_X2_toAt, qn_X2, by decide +kernel, by decide +kernel, by decide +kernel⟩
set_option maxHeartbeats 4000000 in
set_option maxRecDepth 100000 in
theorem c_X2_toAt (l : Launch) (D : va_G) (g : Nat → ClassId) (q_this q_cells q_froms q_tos q_rings q_pranks : Nat) (p1 : Int32) (f_size : Int32) (a_tos : Nat → Int32) (o : Int32) (h : F_X2_toAt p1 a_tos = some o) : MR l yX2_toAt (Cond.code yX2_toAt cX2_toAt 2 (some .int)) { frames := 1, cells := 0, slots := 0, locals := 21 } D g [.ref q_this, .int p1] [(q_this, .inr (3, [.int f_size, .ref q_cells, .ref q_froms, .ref q_tos, .ref q_rings, .ref q_pranks])), (q_tos, .inl (g 0, 10, .inl a_tos))] (some (.int o)) := by
  refine z_rd_start (by decide) (Nat.le_of_ble_eq_true rfl) ?_
  intro p e s m args below meth c Q X hr hQ
  refine z_lv (lv' := [(0, .ref q_this), (1, .int p1)]) rfl ?_
  refine z_aload_n X 0 dX2_toAt_0 rfl rfl ?_
  refine z_get (q0 := 0) (k := 3) (ci := 3) X IR_P iw_X2 rfl qf_X2_X2_tos (by decide) dX2_toAt_1 rfl rfl ?_
  refine z_iload_n X 1 dX2_toAt_4 rfl rfl ?_
  obtain ⟨o1, e2, h⟩ := bnd_p h
  refine z_rdS (rest := []) X IR_P k_X7_at (c_X7_at l D g q_tos 10 p1 a_tos o1 e2) ql_X2_X7_at dX2_toAt_5 [1] rfl rfl rfl ⟨Nat.le_of_ble_eq_true rfl, Nat.le_of_ble_eq_true rfl, rfl, rfl, Nat.le_of_ble_eq_true rfl, Nat.le_of_ble_eq_true rfl⟩ (Nat.le_of_ble_eq_true rfl) ?_
  exact z_iretR X hQ hr dX2_toAt_8 h

def F_X2_ringsAt (p1 : Int32) (a_rings : Nat → Int32) : Option (Int32) :=
  bnd (F_X7_at 10 p1 a_rings) (fun o1 => some (o1))
theorem dX2_ringsAt_0 : decode cX2_ringsAt 0 = .ok (.aload_n 0, 1) := by decide +kernel
theorem dX2_ringsAt_1 : decode cX2_ringsAt 1 = .ok (.getfield 21, 3) := by decide +kernel
theorem dX2_ringsAt_4 : decode cX2_ringsAt 4 = .ok (.iload_n 1, 1) := by decide +kernel
theorem dX2_ringsAt_5 : decode cX2_ringsAt 5 = .ok (.invokestatic 37, 3) := by decide +kernel
theorem dX2_ringsAt_8 : decode cX2_ringsAt 8 = .ok (.ireturn, 1) := by decide +kernel
theorem k_X2_ringsAt : cardV yX2_ringsAt (Cond.code yX2_ringsAt cX2_ringsAt 2 (some .int)) 1 := ⟨⟨qi_X2_ringsAt, qv_X2_ringsAt⟩, qc_X2_ringsAt, qn_X2, by decide +kernel, by decide +kernel, by decide +kernel⟩
set_option maxHeartbeats 4000000 in
set_option maxRecDepth 100000 in
theorem c_X2_ringsAt (l : Launch) (D : va_G) (g : Nat → ClassId) (q_this q_cells q_froms q_tos q_rings q_pranks : Nat) (p1 : Int32) (f_size : Int32) (a_rings : Nat → Int32) (o : Int32) (h : F_X2_ringsAt p1 a_rings = some o) : MR l yX2_ringsAt (Cond.code yX2_ringsAt cX2_ringsAt 2 (some .int)) { frames := 1, cells := 0, slots := 0, locals := 21 } D g [.ref q_this, .int p1] [(q_this, .inr (3, [.int f_size, .ref q_cells, .ref q_froms, .ref q_tos, .ref q_rings, .ref q_pranks])), (q_rings, .inl (g 0, 10, .inl a_rings))] (some (.int o)) := by
  refine z_rd_start (by decide) (Nat.le_of_ble_eq_true rfl) ?_
  intro p e s m args below meth c Q X hr hQ
  refine z_lv (lv' := [(0, .ref q_this), (1, .int p1)]) rfl ?_
  refine z_aload_n X 0 dX2_ringsAt_0 rfl rfl ?_
  refine z_get (q0 := 0) (k := 4) (ci := 3) X IR_P iw_X2 rfl qf_X2_X2_rings (by decide) dX2_ringsAt_1 rfl rfl ?_
  refine z_iload_n X 1 dX2_ringsAt_4 rfl rfl ?_
  obtain ⟨o1, e2, h⟩ := bnd_p h
  refine z_rdS (rest := []) X IR_P k_X7_at (c_X7_at l D g q_rings 10 p1 a_rings o1 e2) ql_X2_X7_at dX2_ringsAt_5 [1] rfl rfl rfl ⟨Nat.le_of_ble_eq_true rfl, Nat.le_of_ble_eq_true rfl, rfl, rfl, Nat.le_of_ble_eq_true rfl, Nat.le_of_ble_eq_true rfl⟩ (Nat.le_of_ble_eq_true rfl) ?_
  exact z_iretR X hQ hr dX2_ringsAt_8 h

def F_X2_pranksAt (p1 : Int32) (a_pranks : Nat → Int32) : Option (Int32) :=
  bnd (F_X7_at 10 p1 a_pranks) (fun o1 => some (o1))
theorem dX2_pranksAt_0 : decode cX2_pranksAt 0 = .ok (.aload_n 0, 1) := by decide +kernel
theorem dX2_pranksAt_1 : decode cX2_pranksAt 1 = .ok (.getfield 24, 3) := by decide +kernel
theorem dX2_pranksAt_4 : decode cX2_pranksAt 4 = .ok (.iload_n 1, 1) := by decide +kernel
theorem dX2_pranksAt_5 : decode cX2_pranksAt 5 = .ok (.invokestatic 37, 3) := by decide +kernel
theorem dX2_pranksAt_8 : decode cX2_pranksAt 8 = .ok (.ireturn, 1) := by decide +kernel
theorem k_X2_pranksAt : cardV yX2_pranksAt (Cond.code yX2_pranksAt cX2_pranksAt 2 (some .int)) 1 := ⟨⟨qi_X2_pranksAt, qv_X2_pranksAt⟩, qc_X2_pranksAt, qn_X2, by decide +kernel, by decide +kernel, by decide +kernel⟩
set_option maxHeartbeats 4000000 in
set_option maxRecDepth 100000 in
theorem c_X2_pranksAt (l : Launch) (D : va_G) (g : Nat → ClassId) (q_this q_cells q_froms q_tos q_rings q_pranks : Nat) (p1 : Int32) (f_size : Int32) (a_pranks : Nat → Int32) (o : Int32) (h : F_X2_pranksAt p1 a_pranks = some o) : MR l yX2_pranksAt (Cond.code yX2_pranksAt cX2_pranksAt 2 (some .int)) { frames := 1, cells := 0, slots := 0, locals := 21 } D g [.ref q_this, .int p1] [(q_this, .inr (3, [.int f_size, .ref q_cells, .ref q_froms, .ref q_tos, .ref q_rings, .ref q_pranks])), (q_pranks, .inl (g 0, 10, .inl a_pranks))] (some (.int o)) := by
  refine z_rd_start (by decide) (Nat.le_of_ble_eq_true rfl) ?_
  intro p e s m args below meth c Q X hr hQ
  refine z_lv (lv' := [(0, .ref q_this), (1, .int p1)]) rfl ?_
  refine z_aload_n X 0 dX2_pranksAt_0 rfl rfl ?_
  refine z_get (q0 := 0) (k := 5) (ci := 3) X IR_P iw_X2 rfl qf_X2_X2_pranks (by decide) dX2_pranksAt_1 rfl rfl ?_
  refine z_iload_n X 1 dX2_pranksAt_4 rfl rfl ?_
  obtain ⟨o1, e2, h⟩ := bnd_p h
  refine z_rdS (rest := []) X IR_P k_X7_at (c_X7_at l D g q_pranks 10 p1 a_pranks o1 e2) ql_X2_X7_at dX2_pranksAt_5 [1] rfl rfl rfl ⟨Nat.le_of_ble_eq_true rfl, Nat.le_of_ble_eq_true rfl, rfl, rfl, Nat.le_of_ble_eq_true rfl, Nat.le_of_ble_eq_true rfl⟩ (Nat.le_of_ble_eq_true rfl) ?_
  exact z_iretR X hQ hr dX2_pranksAt_8 h

def F_X2_isAsleep (p1 : Int32) (p2 : Int32) (a_froms : Nat → Int32) (a_tos : Nat → Int32) : Option (Int32) :=
  bnd (F_X7_at 10 p1 a_froms) (fun o1 => bnd (F_X7_at 10 p1 a_tos) (fun o3 => brn (o3 < o1) (brn (o1 ≤ p2) (some ((1 : Int32))) (brn (o3 ≤ p2) (some ((0 : Int32))) (some ((1 : Int32))))) (brn (p2 < o1) (some ((0 : Int32))) (brn (o3 ≤ p2) (some ((0 : Int32))) (some ((1 : Int32)))))))
theorem dX2_isAsleep_0 : decode cX2_isAsleep 0 = .ok (.aload_n 0, 1) := by decide +kernel
theorem dX2_isAsleep_1 : decode cX2_isAsleep 1 = .ok (.getfield 15, 3) := by decide +kernel
theorem dX2_isAsleep_4 : decode cX2_isAsleep 4 = .ok (.iload_n 1, 1) := by decide +kernel
theorem dX2_isAsleep_5 : decode cX2_isAsleep 5 = .ok (.invokestatic 37, 3) := by decide +kernel
theorem dX2_isAsleep_8 : decode cX2_isAsleep 8 = .ok (.istore_n 3, 1) := by decide +kernel
theorem dX2_isAsleep_9 : decode cX2_isAsleep 9 = .ok (.aload_n 0, 1) := by decide +kernel
theorem dX2_isAsleep_10 : decode cX2_isAsleep 10 = .ok (.getfield 18, 3) := by decide +kernel
theorem dX2_isAsleep_13 : decode cX2_isAsleep 13 = .ok (.iload_n 1, 1) := by decide +kernel
theorem dX2_isAsleep_14 : decode cX2_isAsleep 14 = .ok (.invokestatic 37, 3) := by decide +kernel
theorem dX2_isAsleep_17 : decode cX2_isAsleep 17 = .ok (.istore 4, 2) := by decide +kernel
theorem dX2_isAsleep_19 : decode cX2_isAsleep 19 = .ok (.iload_n 3, 1) := by decide +kernel
theorem dX2_isAsleep_20 : decode cX2_isAsleep 20 = .ok (.iload 4, 2) := by decide +kernel
theorem dX2_isAsleep_22 : decode cX2_isAsleep 22 = .ok (.if_icmp .gt 20, 3) := by decide +kernel
theorem dX2_isAsleep_25 : decode cX2_isAsleep 25 = .ok (.iload_n 2, 1) := by decide +kernel
theorem dX2_isAsleep_26 : decode cX2_isAsleep 26 = .ok (.iload_n 3, 1) := by decide +kernel
theorem dX2_isAsleep_27 : decode cX2_isAsleep 27 = .ok (.if_icmp .lt 13, 3) := by decide +kernel
theorem dX2_isAsleep_30 : decode cX2_isAsleep 30 = .ok (.iload_n 2, 1) := by decide +kernel
theorem dX2_isAsleep_31 : decode cX2_isAsleep 31 = .ok (.iload 4, 2) := by decide +kernel
theorem dX2_isAsleep_33 : decode cX2_isAsleep 33 = .ok (.if_icmp .ge 7, 3) := by decide +kernel
theorem dX2_isAsleep_36 : decode cX2_isAsleep 36 = .ok (.iconst 1, 1) := by decide +kernel
theorem dX2_isAsleep_37 : decode cX2_isAsleep 37 = .ok (.goto 4, 3) := by decide +kernel
theorem dX2_isAsleep_40 : decode cX2_isAsleep 40 = .ok (.iconst 0, 1) := by decide +kernel
theorem dX2_isAsleep_41 : decode cX2_isAsleep 41 = .ok (.ireturn, 1) := by decide +kernel
theorem dX2_isAsleep_42 : decode cX2_isAsleep 42 = .ok (.iload_n 2, 1) := by decide +kernel
theorem dX2_isAsleep_43 : decode cX2_isAsleep 43 = .ok (.iload_n 3, 1) := by decide +kernel
theorem dX2_isAsleep_44 : decode cX2_isAsleep 44 = .ok (.if_icmp .ge 9, 3) := by decide +kernel
theorem dX2_isAsleep_47 : decode cX2_isAsleep 47 = .ok (.iload_n 2, 1) := by decide +kernel
theorem dX2_isAsleep_48 : decode cX2_isAsleep 48 = .ok (.iload 4, 2) := by decide +kernel
theorem dX2_isAsleep_50 : decode cX2_isAsleep 50 = .ok (.if_icmp .ge 7, 3) := by decide +kernel
theorem dX2_isAsleep_53 : decode cX2_isAsleep 53 = .ok (.iconst 1, 1) := by decide +kernel
theorem dX2_isAsleep_54 : decode cX2_isAsleep 54 = .ok (.goto 4, 3) := by decide +kernel
theorem dX2_isAsleep_57 : decode cX2_isAsleep 57 = .ok (.iconst 0, 1) := by decide +kernel
theorem dX2_isAsleep_58 : decode cX2_isAsleep 58 = .ok (.ireturn, 1) := by decide +kernel
theorem k_X2_isAsleep : cardV yX2_isAsleep (Cond.code yX2_isAsleep cX2_isAsleep 5 (some .boolean)) 2 := ⟨⟨qi_X2_isAsleep, qv_X2_isAsleep⟩, qc_X2_isAsleep, qn_X2, by decide +kernel, by decide +kernel, by decide +kernel⟩
set_option maxHeartbeats 4000000 in
set_option maxRecDepth 100000 in
theorem c_X2_isAsleep (l : Launch) (D : va_G) (g : Nat → ClassId) (q_this q_cells q_froms q_tos q_rings q_pranks : Nat) (p1 p2 : Int32) (f_size : Int32) (a_froms : Nat → Int32) (a_tos : Nat → Int32) (o : Int32) (h : F_X2_isAsleep p1 p2 a_froms a_tos = some o) : MR l yX2_isAsleep (Cond.code yX2_isAsleep cX2_isAsleep 5 (some .boolean)) { frames := 1, cells := 0, slots := 0, locals := 21 } D g [.ref q_this, .int p1, .int p2] [(q_this, .inr (3, [.int f_size, .ref q_cells, .ref q_froms, .ref q_tos, .ref q_rings, .ref q_pranks])), (q_froms, .inl (g 0, 10, .inl a_froms)), (q_tos, .inl (g 0, 10, .inl a_tos))] (some (.int o)) := by
  refine z_rd_start (by decide) (Nat.le_of_ble_eq_true rfl) ?_
  intro p e s m args below meth c Q X hr hQ
  refine z_lv (lv' := [(0, .ref q_this), (1, .int p1), (2, .int p2)]) rfl ?_
  refine z_aload_n X 0 dX2_isAsleep_0 rfl rfl ?_
  refine z_get (q0 := 0) (k := 2) (ci := 3) X IR_P iw_X2 rfl qf_X2_X2_froms (by decide) dX2_isAsleep_1 rfl rfl ?_
  refine z_iload_n X 1 dX2_isAsleep_4 rfl rfl ?_
  obtain ⟨o1, e2, h⟩ := bnd_p h
  refine z_rdS (rest := []) X IR_P k_X7_at (c_X7_at l D g q_froms 10 p1 a_froms o1 e2) ql_X2_X7_at dX2_isAsleep_5 [1] rfl rfl rfl ⟨Nat.le_of_ble_eq_true rfl, Nat.le_of_ble_eq_true rfl, rfl, rfl, Nat.le_of_ble_eq_true rfl, Nat.le_of_ble_eq_true rfl⟩ (Nat.le_of_ble_eq_true rfl) ?_
  refine z_istore_n X [(3, .int o1), (0, .ref q_this), (1, .int p1), (2, .int p2)] dX2_isAsleep_8 rfl (by decide) rfl ?_
  refine z_aload_n X 1 dX2_isAsleep_9 rfl rfl ?_
  refine z_get (q0 := 0) (k := 3) (ci := 3) X IR_P iw_X2 rfl qf_X2_X2_tos (by decide) dX2_isAsleep_10 rfl rfl ?_
  refine z_iload_n X 2 dX2_isAsleep_13 rfl rfl ?_
  obtain ⟨o3, e4, h⟩ := bnd_p h
  refine z_rdS (rest := []) X IR_P k_X7_at (c_X7_at l D g q_tos 10 p1 a_tos o3 e4) ql_X2_X7_at dX2_isAsleep_14 [2] rfl rfl rfl ⟨Nat.le_of_ble_eq_true rfl, Nat.le_of_ble_eq_true rfl, rfl, rfl, Nat.le_of_ble_eq_true rfl, Nat.le_of_ble_eq_true rfl⟩ (Nat.le_of_ble_eq_true rfl) ?_
  refine z_istore X [(4, .int o3), (3, .int o1), (0, .ref q_this), (1, .int p1), (2, .int p2)] dX2_isAsleep_17 (by decide) rfl ?_
  refine z_iload_n X 1 dX2_isAsleep_19 rfl rfl ?_
  refine z_iload X 0 dX2_isAsleep_20 rfl ?_
  refine z_icmp_gt X 42 dX2_isAsleep_22 (by decide) h (fun _ h => ?_) (fun _ h => ?_)
  · refine z_iload_n X 4 dX2_isAsleep_42 rfl rfl ?_
    refine z_iload_n X 1 dX2_isAsleep_43 rfl rfl ?_
    refine z_icmp_ge X 53 dX2_isAsleep_44 (by decide) h (fun _ h => ?_) (fun _ h => ?_)
    · refine z_iconst X (1 : Int32) dX2_isAsleep_53 (by decide) ?_
      refine z_goto X 58 dX2_isAsleep_54 (by decide) ?_
      exact z_zretR X hQ hr dX2_isAsleep_58 rfl h
    · refine z_iload_n X 4 dX2_isAsleep_47 rfl rfl ?_
      refine z_iload X 0 dX2_isAsleep_48 rfl ?_
      refine z_icmp_ge X 57 dX2_isAsleep_50 (by decide) h (fun _ h => ?_) (fun _ h => ?_)
      · refine z_iconst X (0 : Int32) dX2_isAsleep_57 (by decide) ?_
        exact z_zretR X hQ hr dX2_isAsleep_58 rfl h
      · refine z_iconst X (1 : Int32) dX2_isAsleep_53 (by decide) ?_
        refine z_goto X 58 dX2_isAsleep_54 (by decide) ?_
        exact z_zretR X hQ hr dX2_isAsleep_58 rfl h
  · refine z_iload_n X 4 dX2_isAsleep_25 rfl rfl ?_
    refine z_iload_n X 1 dX2_isAsleep_26 rfl rfl ?_
    refine z_icmp_lt X 40 dX2_isAsleep_27 (by decide) h (fun _ h => ?_) (fun _ h => ?_)
    · refine z_iconst X (0 : Int32) dX2_isAsleep_40 (by decide) ?_
      exact z_zretR X hQ hr dX2_isAsleep_41 rfl h
    · refine z_iload_n X 4 dX2_isAsleep_30 rfl rfl ?_
      refine z_iload X 0 dX2_isAsleep_31 rfl ?_
      refine z_icmp_ge X 40 dX2_isAsleep_33 (by decide) h (fun _ h => ?_) (fun _ h => ?_)
      · refine z_iconst X (0 : Int32) dX2_isAsleep_40 (by decide) ?_
        exact z_zretR X hQ hr dX2_isAsleep_41 rfl h
      · refine z_iconst X (1 : Int32) dX2_isAsleep_36 (by decide) ?_
        refine z_goto X 41 dX2_isAsleep_37 (by decide) ?_
        exact z_zretR X hQ hr dX2_isAsleep_41 rfl h

def F_X2_sleepAt (p1 : Int32) (a_froms : Nat → Int32) (a_tos : Nat → Int32) : Option (Int32) :=
  bnd (F_X2_toAt p1 a_tos) (fun o1 => bnd (F_X2_fromAt p1 a_froms) (fun o3 => some (((o1 - o3) + (24 : Int32)) - ((o1 - o3) + (24 : Int32)) / (24 : Int32) * (24 : Int32))))
theorem dX2_sleepAt_0 : decode cX2_sleepAt 0 = .ok (.aload_n 0, 1) := by decide +kernel
theorem dX2_sleepAt_1 : decode cX2_sleepAt 1 = .ok (.iload_n 1, 1) := by decide +kernel
theorem dX2_sleepAt_2 : decode cX2_sleepAt 2 = .ok (.invokevirtual 56, 3) := by decide +kernel
theorem dX2_sleepAt_5 : decode cX2_sleepAt 5 = .ok (.aload_n 0, 1) := by decide +kernel
theorem dX2_sleepAt_6 : decode cX2_sleepAt 6 = .ok (.iload_n 1, 1) := by decide +kernel
theorem dX2_sleepAt_7 : decode cX2_sleepAt 7 = .ok (.invokevirtual 59, 3) := by decide +kernel
theorem dX2_sleepAt_10 : decode cX2_sleepAt 10 = .ok (.isub, 1) := by decide +kernel
theorem dX2_sleepAt_11 : decode cX2_sleepAt 11 = .ok (.bipush 24, 2) := by decide +kernel
theorem dX2_sleepAt_13 : decode cX2_sleepAt 13 = .ok (.iadd, 1) := by decide +kernel
theorem dX2_sleepAt_14 : decode cX2_sleepAt 14 = .ok (.bipush 24, 2) := by decide +kernel
theorem dX2_sleepAt_16 : decode cX2_sleepAt 16 = .ok (.irem, 1) := by decide +kernel
theorem dX2_sleepAt_17 : decode cX2_sleepAt 17 = .ok (.ireturn, 1) := by decide +kernel
theorem k_X2_sleepAt : cardV yX2_sleepAt (Cond.code yX2_sleepAt cX2_sleepAt 2 (some .int)) 1 := ⟨⟨qi_X2_sleepAt, qv_X2_sleepAt⟩, qc_X2_sleepAt, qn_X2, by decide +kernel, by decide +kernel, by decide +kernel⟩
set_option maxHeartbeats 4000000 in
set_option maxRecDepth 100000 in
theorem c_X2_sleepAt (l : Launch) (D : va_G) (g : Nat → ClassId) (q_this q_cells q_froms q_tos q_rings q_pranks : Nat) (p1 : Int32) (f_size : Int32) (a_froms : Nat → Int32) (a_tos : Nat → Int32) (o : Int32) (h : F_X2_sleepAt p1 a_froms a_tos = some o) : MR l yX2_sleepAt (Cond.code yX2_sleepAt cX2_sleepAt 2 (some .int)) { frames := 2, cells := 0, slots := 0, locals := 42 } D g [.ref q_this, .int p1] [(q_this, .inr (3, [.int f_size, .ref q_cells, .ref q_froms, .ref q_tos, .ref q_rings, .ref q_pranks])), (q_froms, .inl (g 0, 10, .inl a_froms)), (q_tos, .inl (g 0, 10, .inl a_tos))] (some (.int o)) := by
  refine z_rd_start (by decide) (Nat.le_of_ble_eq_true rfl) ?_
  intro p e s m args below meth c Q X hr hQ
  refine z_lv (lv' := [(0, .ref q_this), (1, .int p1)]) rfl ?_
  refine z_aload_n X 0 dX2_sleepAt_0 rfl rfl ?_
  refine z_iload_n X 1 dX2_sleepAt_1 rfl rfl ?_
  obtain ⟨o1, e2, h⟩ := bnd_p h
  refine z_rdV (rest := []) (q0 := 0) (ci := 3) X IR_P k_X2_toAt (c_X2_toAt l D g q_this q_cells q_froms q_tos q_rings q_pranks p1 f_size a_tos o1 e2) ql_X2_X2_toAt dX2_sleepAt_2 [0, 2] rfl rfl rfl rfl rfl rfl ⟨Nat.le_of_ble_eq_true rfl, Nat.le_of_ble_eq_true rfl, rfl, rfl, Nat.le_of_ble_eq_true rfl, Nat.le_of_ble_eq_true rfl⟩ (Nat.le_of_ble_eq_true rfl) ?_
  refine z_aload_n X 0 dX2_sleepAt_5 rfl rfl ?_
  refine z_iload_n X 1 dX2_sleepAt_6 rfl rfl ?_
  obtain ⟨o3, e4, h⟩ := bnd_p h
  refine z_rdV (rest := [.int o1]) (q0 := 0) (ci := 3) X IR_P k_X2_fromAt (c_X2_fromAt l D g q_this q_cells q_froms q_tos q_rings q_pranks p1 f_size a_froms o3 e4) ql_X2_X2_fromAt dX2_sleepAt_7 [0, 1] rfl rfl rfl rfl rfl rfl ⟨Nat.le_of_ble_eq_true rfl, Nat.le_of_ble_eq_true rfl, rfl, rfl, Nat.le_of_ble_eq_true rfl, Nat.le_of_ble_eq_true rfl⟩ (Nat.le_of_ble_eq_true rfl) ?_
  refine z_isub X dX2_sleepAt_10 ?_
  refine z_bipush X (24 : Int32) dX2_sleepAt_11 (by decide) ?_
  refine z_iadd X dX2_sleepAt_13 ?_
  refine z_bipush X (24 : Int32) dX2_sleepAt_14 (by decide) ?_
  refine z_irem X dX2_sleepAt_16 (by decide) ?_
  exact z_iretR X hQ hr dX2_sleepAt_17 h

def J_X2_turnAt_24 (p1 : Int32) (f_size : Int32) (a_froms : Nat → Int32) (a_tos : Nat → Int32) (r4 : Int32 → Int32 → Option (Int32)) (x2 : Int32) (x3 : Int32) : Option (Int32) :=
  bnd (F_X2_toAt x3 a_tos) (fun o3 => brn (o3 = p1) (r4 (x2 + (-1)) (x3 + 1)) (r4 x2 (x3 + 1)))

def L_X2_turnAt_4 (p1 : Int32) (f_size : Int32) (a_froms : Nat → Int32) (a_tos : Nat → Int32) : Nat → Int32 → Int32 → Option (Int32)
  | 0, _, _ => none
  | _n + 1, x2, x3 =>
    brn (f_size ≤ x3) (some (x2)) (bnd (F_X2_fromAt x3 a_froms) (fun o1 => brn (o1 = p1) (J_X2_turnAt_24 p1 f_size a_froms a_tos (L_X2_turnAt_4 p1 f_size a_froms a_tos _n) (x2 + 1) x3) (J_X2_turnAt_24 p1 f_size a_froms a_tos (L_X2_turnAt_4 p1 f_size a_froms a_tos _n) x2 x3)))

def F_X2_turnAt (p1 : Int32) (f_size : Int32) (a_froms : Nat → Int32) (a_tos : Nat → Int32) : Option (Int32) :=
  L_X2_turnAt_4 p1 f_size a_froms a_tos 100 (0 : Int32) (0 : Int32)
theorem dX2_turnAt_0 : decode cX2_turnAt 0 = .ok (.iconst 0, 1) := by decide +kernel
theorem dX2_turnAt_1 : decode cX2_turnAt 1 = .ok (.istore_n 2, 1) := by decide +kernel
theorem dX2_turnAt_2 : decode cX2_turnAt 2 = .ok (.iconst 0, 1) := by decide +kernel
theorem dX2_turnAt_3 : decode cX2_turnAt 3 = .ok (.istore_n 3, 1) := by decide +kernel
theorem dX2_turnAt_4 : decode cX2_turnAt 4 = .ok (.iload_n 3, 1) := by decide +kernel
theorem dX2_turnAt_5 : decode cX2_turnAt 5 = .ok (.aload_n 0, 1) := by decide +kernel
theorem dX2_turnAt_6 : decode cX2_turnAt 6 = .ok (.getfield 27, 3) := by decide +kernel
theorem dX2_turnAt_9 : decode cX2_turnAt 9 = .ok (.if_icmp .ge 33, 3) := by decide +kernel
theorem dX2_turnAt_12 : decode cX2_turnAt 12 = .ok (.aload_n 0, 1) := by decide +kernel
theorem dX2_turnAt_13 : decode cX2_turnAt 13 = .ok (.iload_n 3, 1) := by decide +kernel
theorem dX2_turnAt_14 : decode cX2_turnAt 14 = .ok (.invokevirtual 59, 3) := by decide +kernel
theorem dX2_turnAt_17 : decode cX2_turnAt 17 = .ok (.iload_n 1, 1) := by decide +kernel
theorem dX2_turnAt_18 : decode cX2_turnAt 18 = .ok (.if_icmp .ne 6, 3) := by decide +kernel
theorem dX2_turnAt_21 : decode cX2_turnAt 21 = .ok (.iinc 2 1, 3) := by decide +kernel
theorem dX2_turnAt_24 : decode cX2_turnAt 24 = .ok (.aload_n 0, 1) := by decide +kernel
theorem dX2_turnAt_25 : decode cX2_turnAt 25 = .ok (.iload_n 3, 1) := by decide +kernel
theorem dX2_turnAt_26 : decode cX2_turnAt 26 = .ok (.invokevirtual 56, 3) := by decide +kernel
theorem dX2_turnAt_29 : decode cX2_turnAt 29 = .ok (.iload_n 1, 1) := by decide +kernel
theorem dX2_turnAt_30 : decode cX2_turnAt 30 = .ok (.if_icmp .ne 6, 3) := by decide +kernel
theorem dX2_turnAt_33 : decode cX2_turnAt 33 = .ok (.iinc 2 (-1), 3) := by decide +kernel
theorem dX2_turnAt_36 : decode cX2_turnAt 36 = .ok (.iinc 3 1, 3) := by decide +kernel
theorem dX2_turnAt_39 : decode cX2_turnAt 39 = .ok (.goto (-35), 3) := by decide +kernel
theorem dX2_turnAt_42 : decode cX2_turnAt 42 = .ok (.iload_n 2, 1) := by decide +kernel
theorem dX2_turnAt_43 : decode cX2_turnAt 43 = .ok (.ireturn, 1) := by decide +kernel
theorem k_X2_turnAt : cardV yX2_turnAt (Cond.code yX2_turnAt cX2_turnAt 4 (some .int)) 1 := ⟨⟨qi_X2_turnAt, qv_X2_turnAt⟩, qc_X2_turnAt, qn_X2, by decide +kernel, by decide +kernel, by decide +kernel⟩
set_option maxHeartbeats 4000000 in
set_option maxRecDepth 100000 in
theorem c_X2_turnAt (l : Launch) (D : va_G) (g : Nat → ClassId) (q_this q_cells q_froms q_tos q_rings q_pranks : Nat) (p1 : Int32) (f_size : Int32) (a_froms : Nat → Int32) (a_tos : Nat → Int32) (o : Int32) (h : F_X2_turnAt p1 f_size a_froms a_tos = some o) : MR l yX2_turnAt (Cond.code yX2_turnAt cX2_turnAt 4 (some .int)) { frames := 2, cells := 0, slots := 0, locals := 42 } D g [.ref q_this, .int p1] [(q_this, .inr (3, [.int f_size, .ref q_cells, .ref q_froms, .ref q_tos, .ref q_rings, .ref q_pranks])), (q_froms, .inl (g 0, 10, .inl a_froms)), (q_tos, .inl (g 0, 10, .inl a_tos))] (some (.int o)) := by
  refine z_rd_start (by decide) (Nat.le_of_ble_eq_true rfl) ?_
  intro p e s m args below meth c Q X hr hQ
  refine z_lv (lv' := [(0, .ref q_this), (1, .int p1)]) rfl ?_
  have H4 : ∀ (n : Nat) (x2 : Int32) (x3 : Int32), L_X2_turnAt_4 p1 f_size a_froms a_tos  n x2 x3 = some o → Z p l e { frames := 2, cells := 0, slots := 0, locals := 42 } s m args below meth c Q 4 0 0 (IR D [(q_this, .inr (3, [.int f_size, .ref q_cells, .ref q_froms, .ref q_tos, .ref q_rings, .ref q_pranks])), (q_froms, .inl (g 0, 10, .inl a_froms)), (q_tos, .inl (g 0, 10, .inl a_tos))] s) 4 [(0, .ref q_this), (1, .int p1), (2, .int x2), (3, .int x3)] [] := by
    intro n
    induction n with
    | zero => intro x2 x3 h; cases h
    | succ n4 ih4 =>
      intro x2 x3 h
      have H24 : ∀ (x2 : Int32) (x3 : Int32), J_X2_turnAt_24 p1 f_size a_froms a_tos (L_X2_turnAt_4 p1 f_size a_froms a_tos n4) x2 x3 = some o → Z p l e { frames := 2, cells := 0, slots := 0, locals := 42 } s m args below meth c Q 4 0 0 (IR D [(q_this, .inr (3, [.int f_size, .ref q_cells, .ref q_froms, .ref q_tos, .ref q_rings, .ref q_pranks])), (q_froms, .inl (g 0, 10, .inl a_froms)), (q_tos, .inl (g 0, 10, .inl a_tos))] s) 24 [(0, .ref q_this), (1, .int p1), (2, .int x2), (3, .int x3)] [] := by
        intro x2 x3 h
        refine z_aload_n X 0 dX2_turnAt_24 rfl rfl ?_
        refine z_iload_n X 3 dX2_turnAt_25 rfl rfl ?_
        obtain ⟨o3, e4, h⟩ := bnd_p h
        refine z_rdV (rest := []) (q0 := 0) (ci := 3) X IR_P k_X2_toAt (c_X2_toAt l D g q_this q_cells q_froms q_tos q_rings q_pranks x3 f_size a_tos o3 e4) ql_X2_X2_toAt dX2_turnAt_26 [0, 2] rfl rfl rfl rfl rfl rfl ⟨Nat.le_of_ble_eq_true rfl, Nat.le_of_ble_eq_true rfl, rfl, rfl, Nat.le_of_ble_eq_true rfl, Nat.le_of_ble_eq_true rfl⟩ (Nat.le_of_ble_eq_true rfl) ?_
        refine z_iload_n X 1 dX2_turnAt_29 rfl rfl ?_
        refine z_icmp_ne X 36 dX2_turnAt_30 (by decide) h (fun _ h => ?_) (fun _ h => ?_)
        · refine z_iinc X 2 [(2, .int (x2 + (-1))), (0, .ref q_this), (1, .int p1), (3, .int x3)] dX2_turnAt_33 rfl rfl (by decide) rfl ?_
          refine z_iinc X 3 [(3, .int (x3 + 1)), (2, .int (x2 + (-1))), (0, .ref q_this), (1, .int p1)] dX2_turnAt_36 rfl rfl (by decide) rfl ?_
          refine z_goto X 4 dX2_turnAt_39 (by decide) ?_
          refine z_sub (lv' := [(0, .ref q_this), (1, .int p1), (2, .int (x2 + (-1))), (3, .int (x3 + 1))]) [2, 3, 1, 0] rfl ?_
          exact ih4 (x2 + (-1)) (x3 + 1) h
        · refine z_iinc X 3 [(3, .int (x3 + 1)), (0, .ref q_this), (1, .int p1), (2, .int x2)] dX2_turnAt_36 rfl rfl (by decide) rfl ?_
          refine z_goto X 4 dX2_turnAt_39 (by decide) ?_
          refine z_sub (lv' := [(0, .ref q_this), (1, .int p1), (2, .int x2), (3, .int (x3 + 1))]) [1, 2, 3, 0] rfl ?_
          exact ih4 x2 (x3 + 1) h
      refine z_iload_n X 3 dX2_turnAt_4 rfl rfl ?_
      refine z_aload_n X 0 dX2_turnAt_5 rfl rfl ?_
      refine z_get (q0 := 0) (k := 0) (ci := 3) X IR_P iw_X2 rfl qf_X2_X2_size (by decide) dX2_turnAt_6 rfl rfl ?_
      refine z_icmp_ge X 42 dX2_turnAt_9 (by decide) h (fun _ h => ?_) (fun _ h => ?_)
      · refine z_iload_n X 2 dX2_turnAt_42 rfl rfl ?_
        exact z_iretR X hQ hr dX2_turnAt_43 h
      · refine z_aload_n X 0 dX2_turnAt_12 rfl rfl ?_
        refine z_iload_n X 3 dX2_turnAt_13 rfl rfl ?_
        obtain ⟨o1, e2, h⟩ := bnd_p h
        refine z_rdV (rest := []) (q0 := 0) (ci := 3) X IR_P k_X2_fromAt (c_X2_fromAt l D g q_this q_cells q_froms q_tos q_rings q_pranks x3 f_size a_froms o1 e2) ql_X2_X2_fromAt dX2_turnAt_14 [0, 1] rfl rfl rfl rfl rfl rfl ⟨Nat.le_of_ble_eq_true rfl, Nat.le_of_ble_eq_true rfl, rfl, rfl, Nat.le_of_ble_eq_true rfl, Nat.le_of_ble_eq_true rfl⟩ (Nat.le_of_ble_eq_true rfl) ?_
        refine z_iload_n X 1 dX2_turnAt_17 rfl rfl ?_
        refine z_icmp_ne X 24 dX2_turnAt_18 (by decide) h (fun _ h => ?_) (fun _ h => ?_)
        · refine z_iinc X 2 [(2, .int (x2 + 1)), (0, .ref q_this), (1, .int p1), (3, .int x3)] dX2_turnAt_21 rfl rfl (by decide) rfl ?_
          refine z_sub (lv' := [(0, .ref q_this), (1, .int p1), (2, .int (x2 + 1)), (3, .int x3)]) [1, 2, 0, 3] rfl ?_
          exact H24 (x2 + 1) x3 h
        · exact H24 x2 x3 h
  refine z_iconst X (0 : Int32) dX2_turnAt_0 (by decide) ?_
  refine z_istore_n X [(2, .int (0 : Int32)), (0, .ref q_this), (1, .int p1)] dX2_turnAt_1 rfl (by decide) rfl ?_
  refine z_iconst X (0 : Int32) dX2_turnAt_2 (by decide) ?_
  refine z_istore_n X [(3, .int (0 : Int32)), (2, .int (0 : Int32)), (0, .ref q_this), (1, .int p1)] dX2_turnAt_3 rfl (by decide) rfl ?_
  refine z_sub (lv' := [(0, .ref q_this), (1, .int p1), (2, .int (0 : Int32)), (3, .int (0 : Int32))]) [2, 3, 1, 0] rfl ?_
  exact H4 100 (0 : Int32) (0 : Int32) h

def L_X2_sleepersByTurns_36 (p1 : Int32) (f_size : Int32) (a_froms : Nat → Int32) (a_tos : Nat → Int32) : Nat → Int32 → Int32 → Option (Int32)
  | 0, _, _ => none
  | _n + 1, x2, x3 =>
    brn (p1 < x3) (some (x2)) (brn ((24 : Int32) ≤ x3) (some (x2)) (bnd (F_X2_turnAt x3 f_size a_froms a_tos) (fun o1 => L_X2_sleepersByTurns_36 p1 f_size a_froms a_tos _n (x2 + o1) (x3 + 1))))

def L_X2_sleepersByTurns_4 (p1 : Int32) (f_size : Int32) (a_froms : Nat → Int32) (a_tos : Nat → Int32) : Nat → Int32 → Int32 → Option (Int32)
  | 0, _, _ => none
  | _n + 1, x2, x3 =>
    brn (f_size ≤ x3) (L_X2_sleepersByTurns_36 p1 f_size a_froms a_tos 100 x2 (0 : Int32)) (bnd (F_X2_fromAt x3 a_froms) (fun o3 => bnd (F_X2_toAt x3 a_tos) (fun o5 => brn (o3 ≤ o5) (L_X2_sleepersByTurns_4 p1 f_size a_froms a_tos _n x2 (x3 + 1)) (L_X2_sleepersByTurns_4 p1 f_size a_froms a_tos _n (x2 + 1) (x3 + 1)))))

def F_X2_sleepersByTurns (p1 : Int32) (f_size : Int32) (a_froms : Nat → Int32) (a_tos : Nat → Int32) : Option (Int32) :=
  L_X2_sleepersByTurns_4 p1 f_size a_froms a_tos 100 (0 : Int32) (0 : Int32)
theorem dX2_sleepersByTurns_0 : decode cX2_sleepersByTurns 0 = .ok (.iconst 0, 1) := by decide +kernel
theorem dX2_sleepersByTurns_1 : decode cX2_sleepersByTurns 1 = .ok (.istore_n 2, 1) := by decide +kernel
theorem dX2_sleepersByTurns_2 : decode cX2_sleepersByTurns 2 = .ok (.iconst 0, 1) := by decide +kernel
theorem dX2_sleepersByTurns_3 : decode cX2_sleepersByTurns 3 = .ok (.istore_n 3, 1) := by decide +kernel
theorem dX2_sleepersByTurns_4 : decode cX2_sleepersByTurns 4 = .ok (.iload_n 3, 1) := by decide +kernel
theorem dX2_sleepersByTurns_5 : decode cX2_sleepersByTurns 5 = .ok (.aload_n 0, 1) := by decide +kernel
theorem dX2_sleepersByTurns_6 : decode cX2_sleepersByTurns 6 = .ok (.getfield 27, 3) := by decide +kernel
theorem dX2_sleepersByTurns_9 : decode cX2_sleepersByTurns 9 = .ok (.if_icmp .ge 25, 3) := by decide +kernel
theorem dX2_sleepersByTurns_12 : decode cX2_sleepersByTurns 12 = .ok (.aload_n 0, 1) := by decide +kernel
theorem dX2_sleepersByTurns_13 : decode cX2_sleepersByTurns 13 = .ok (.iload_n 3, 1) := by decide +kernel
theorem dX2_sleepersByTurns_14 : decode cX2_sleepersByTurns 14 = .ok (.invokevirtual 59, 3) := by decide +kernel
theorem dX2_sleepersByTurns_17 : decode cX2_sleepersByTurns 17 = .ok (.aload_n 0, 1) := by decide +kernel
theorem dX2_sleepersByTurns_18 : decode cX2_sleepersByTurns 18 = .ok (.iload_n 3, 1) := by decide +kernel
theorem dX2_sleepersByTurns_19 : decode cX2_sleepersByTurns 19 = .ok (.invokevirtual 56, 3) := by decide +kernel
theorem dX2_sleepersByTurns_22 : decode cX2_sleepersByTurns 22 = .ok (.if_icmp .le 6, 3) := by decide +kernel
theorem dX2_sleepersByTurns_25 : decode cX2_sleepersByTurns 25 = .ok (.iinc 2 1, 3) := by decide +kernel
theorem dX2_sleepersByTurns_28 : decode cX2_sleepersByTurns 28 = .ok (.iinc 3 1, 3) := by decide +kernel
theorem dX2_sleepersByTurns_31 : decode cX2_sleepersByTurns 31 = .ok (.goto (-27), 3) := by decide +kernel
theorem dX2_sleepersByTurns_34 : decode cX2_sleepersByTurns 34 = .ok (.iconst 0, 1) := by decide +kernel
theorem dX2_sleepersByTurns_35 : decode cX2_sleepersByTurns 35 = .ok (.istore_n 3, 1) := by decide +kernel
theorem dX2_sleepersByTurns_36 : decode cX2_sleepersByTurns 36 = .ok (.iload_n 3, 1) := by decide +kernel
theorem dX2_sleepersByTurns_37 : decode cX2_sleepersByTurns 37 = .ok (.iload_n 1, 1) := by decide +kernel
theorem dX2_sleepersByTurns_38 : decode cX2_sleepersByTurns 38 = .ok (.if_icmp .gt 23, 3) := by decide +kernel
theorem dX2_sleepersByTurns_41 : decode cX2_sleepersByTurns 41 = .ok (.iload_n 3, 1) := by decide +kernel
theorem dX2_sleepersByTurns_42 : decode cX2_sleepersByTurns 42 = .ok (.bipush 24, 2) := by decide +kernel
theorem dX2_sleepersByTurns_44 : decode cX2_sleepersByTurns 44 = .ok (.if_icmp .ge 17, 3) := by decide +kernel
theorem dX2_sleepersByTurns_47 : decode cX2_sleepersByTurns 47 = .ok (.iload_n 2, 1) := by decide +kernel
theorem dX2_sleepersByTurns_48 : decode cX2_sleepersByTurns 48 = .ok (.aload_n 0, 1) := by decide +kernel
theorem dX2_sleepersByTurns_49 : decode cX2_sleepersByTurns 49 = .ok (.iload_n 3, 1) := by decide +kernel
theorem dX2_sleepersByTurns_50 : decode cX2_sleepersByTurns 50 = .ok (.invokevirtual 69, 3) := by decide +kernel
theorem dX2_sleepersByTurns_53 : decode cX2_sleepersByTurns 53 = .ok (.iadd, 1) := by decide +kernel
theorem dX2_sleepersByTurns_54 : decode cX2_sleepersByTurns 54 = .ok (.istore_n 2, 1) := by decide +kernel
theorem dX2_sleepersByTurns_55 : decode cX2_sleepersByTurns 55 = .ok (.iinc 3 1, 3) := by decide +kernel
theorem dX2_sleepersByTurns_58 : decode cX2_sleepersByTurns 58 = .ok (.goto (-22), 3) := by decide +kernel
theorem dX2_sleepersByTurns_61 : decode cX2_sleepersByTurns 61 = .ok (.iload_n 2, 1) := by decide +kernel
theorem dX2_sleepersByTurns_62 : decode cX2_sleepersByTurns 62 = .ok (.ireturn, 1) := by decide +kernel
theorem k_X2_sleepersByTurns : cardV yX2_sleepersByTurns (Cond.code yX2_sleepersByTurns cX2_sleepersByTurns 4 (some .int)) 1 := ⟨⟨qi_X2_sleepersByTurns, qv_X2_sleepersByTurns⟩, qc_X2_sleepersByTurns, qn_X2, by decide +kernel, by decide +kernel, by decide +kernel⟩
set_option maxHeartbeats 4000000 in
set_option maxRecDepth 100000 in
theorem c_X2_sleepersByTurns (l : Launch) (D : va_G) (g : Nat → ClassId) (q_this q_cells q_froms q_tos q_rings q_pranks : Nat) (p1 : Int32) (f_size : Int32) (a_froms : Nat → Int32) (a_tos : Nat → Int32) (o : Int32) (h : F_X2_sleepersByTurns p1 f_size a_froms a_tos = some o) : MR l yX2_sleepersByTurns (Cond.code yX2_sleepersByTurns cX2_sleepersByTurns 4 (some .int)) { frames := 3, cells := 0, slots := 0, locals := 65 } D g [.ref q_this, .int p1] [(q_this, .inr (3, [.int f_size, .ref q_cells, .ref q_froms, .ref q_tos, .ref q_rings, .ref q_pranks])), (q_froms, .inl (g 0, 10, .inl a_froms)), (q_tos, .inl (g 0, 10, .inl a_tos))] (some (.int o)) := by
  refine z_rd_start (by decide) (Nat.le_of_ble_eq_true rfl) ?_
  intro p e s m args below meth c Q X hr hQ
  refine z_lv (lv' := [(0, .ref q_this), (1, .int p1)]) rfl ?_
  have H36 : ∀ (n : Nat) (x2 : Int32) (x3 : Int32), L_X2_sleepersByTurns_36 p1 f_size a_froms a_tos  n x2 x3 = some o → Z p l e { frames := 3, cells := 0, slots := 0, locals := 65 } s m args below meth c Q 4 0 0 (IR D [(q_this, .inr (3, [.int f_size, .ref q_cells, .ref q_froms, .ref q_tos, .ref q_rings, .ref q_pranks])), (q_froms, .inl (g 0, 10, .inl a_froms)), (q_tos, .inl (g 0, 10, .inl a_tos))] s) 36 [(0, .ref q_this), (1, .int p1), (2, .int x2), (3, .int x3)] [] := by
    intro n
    induction n with
    | zero => intro x2 x3 h; cases h
    | succ n36 ih36 =>
      intro x2 x3 h
      refine z_iload_n X 3 dX2_sleepersByTurns_36 rfl rfl ?_
      refine z_iload_n X 1 dX2_sleepersByTurns_37 rfl rfl ?_
      refine z_icmp_gt X 61 dX2_sleepersByTurns_38 (by decide) h (fun _ h => ?_) (fun _ h => ?_)
      · refine z_iload_n X 2 dX2_sleepersByTurns_61 rfl rfl ?_
        exact z_iretR X hQ hr dX2_sleepersByTurns_62 h
      · refine z_iload_n X 3 dX2_sleepersByTurns_41 rfl rfl ?_
        refine z_bipush X (24 : Int32) dX2_sleepersByTurns_42 (by decide) ?_
        refine z_icmp_ge X 61 dX2_sleepersByTurns_44 (by decide) h (fun _ h => ?_) (fun _ h => ?_)
        · refine z_iload_n X 2 dX2_sleepersByTurns_61 rfl rfl ?_
          exact z_iretR X hQ hr dX2_sleepersByTurns_62 h
        · refine z_iload_n X 2 dX2_sleepersByTurns_47 rfl rfl ?_
          refine z_aload_n X 0 dX2_sleepersByTurns_48 rfl rfl ?_
          refine z_iload_n X 3 dX2_sleepersByTurns_49 rfl rfl ?_
          obtain ⟨o1, e2, h⟩ := bnd_p h
          refine z_rdV (rest := [.int x2]) (q0 := 0) (ci := 3) X IR_P k_X2_turnAt (c_X2_turnAt l D g q_this q_cells q_froms q_tos q_rings q_pranks x3 f_size a_froms a_tos o1 e2) ql_X2_X2_turnAt dX2_sleepersByTurns_50 [0, 1, 2] rfl rfl rfl rfl rfl rfl ⟨Nat.le_of_ble_eq_true rfl, Nat.le_of_ble_eq_true rfl, rfl, rfl, Nat.le_of_ble_eq_true rfl, Nat.le_of_ble_eq_true rfl⟩ (Nat.le_of_ble_eq_true rfl) ?_
          refine z_iadd X dX2_sleepersByTurns_53 ?_
          refine z_istore_n X [(2, .int (x2 + o1)), (0, .ref q_this), (1, .int p1), (3, .int x3)] dX2_sleepersByTurns_54 rfl (by decide) rfl ?_
          refine z_iinc X 3 [(3, .int (x3 + 1)), (2, .int (x2 + o1)), (0, .ref q_this), (1, .int p1)] dX2_sleepersByTurns_55 rfl rfl (by decide) rfl ?_
          refine z_goto X 36 dX2_sleepersByTurns_58 (by decide) ?_
          refine z_sub (lv' := [(0, .ref q_this), (1, .int p1), (2, .int (x2 + o1)), (3, .int (x3 + 1))]) [2, 3, 1, 0] rfl ?_
          exact ih36 (x2 + o1) (x3 + 1) h
  have H4 : ∀ (n : Nat) (x2 : Int32) (x3 : Int32), L_X2_sleepersByTurns_4 p1 f_size a_froms a_tos  n x2 x3 = some o → Z p l e { frames := 3, cells := 0, slots := 0, locals := 65 } s m args below meth c Q 4 0 0 (IR D [(q_this, .inr (3, [.int f_size, .ref q_cells, .ref q_froms, .ref q_tos, .ref q_rings, .ref q_pranks])), (q_froms, .inl (g 0, 10, .inl a_froms)), (q_tos, .inl (g 0, 10, .inl a_tos))] s) 4 [(0, .ref q_this), (1, .int p1), (2, .int x2), (3, .int x3)] [] := by
    intro n
    induction n with
    | zero => intro x2 x3 h; cases h
    | succ n4 ih4 =>
      intro x2 x3 h
      refine z_iload_n X 3 dX2_sleepersByTurns_4 rfl rfl ?_
      refine z_aload_n X 0 dX2_sleepersByTurns_5 rfl rfl ?_
      refine z_get (q0 := 0) (k := 0) (ci := 3) X IR_P iw_X2 rfl qf_X2_X2_size (by decide) dX2_sleepersByTurns_6 rfl rfl ?_
      refine z_icmp_ge X 34 dX2_sleepersByTurns_9 (by decide) h (fun _ h => ?_) (fun _ h => ?_)
      · refine z_iconst X (0 : Int32) dX2_sleepersByTurns_34 (by decide) ?_
        refine z_istore_n X [(3, .int (0 : Int32)), (0, .ref q_this), (1, .int p1), (2, .int x2)] dX2_sleepersByTurns_35 rfl (by decide) rfl ?_
        refine z_sub (lv' := [(0, .ref q_this), (1, .int p1), (2, .int x2), (3, .int (0 : Int32))]) [1, 2, 3, 0] rfl ?_
        exact H36 100 x2 (0 : Int32) h
      · refine z_aload_n X 0 dX2_sleepersByTurns_12 rfl rfl ?_
        refine z_iload_n X 3 dX2_sleepersByTurns_13 rfl rfl ?_
        obtain ⟨o3, e4, h⟩ := bnd_p h
        refine z_rdV (rest := []) (q0 := 0) (ci := 3) X IR_P k_X2_fromAt (c_X2_fromAt l D g q_this q_cells q_froms q_tos q_rings q_pranks x3 f_size a_froms o3 e4) ql_X2_X2_fromAt dX2_sleepersByTurns_14 [0, 1] rfl rfl rfl rfl rfl rfl ⟨Nat.le_of_ble_eq_true rfl, Nat.le_of_ble_eq_true rfl, rfl, rfl, Nat.le_of_ble_eq_true rfl, Nat.le_of_ble_eq_true rfl⟩ (Nat.le_of_ble_eq_true rfl) ?_
        refine z_aload_n X 0 dX2_sleepersByTurns_17 rfl rfl ?_
        refine z_iload_n X 3 dX2_sleepersByTurns_18 rfl rfl ?_
        obtain ⟨o5, e6, h⟩ := bnd_p h
        refine z_rdV (rest := [.int o3]) (q0 := 0) (ci := 3) X IR_P k_X2_toAt (c_X2_toAt l D g q_this q_cells q_froms q_tos q_rings q_pranks x3 f_size a_tos o5 e6) ql_X2_X2_toAt dX2_sleepersByTurns_19 [0, 2] rfl rfl rfl rfl rfl rfl ⟨Nat.le_of_ble_eq_true rfl, Nat.le_of_ble_eq_true rfl, rfl, rfl, Nat.le_of_ble_eq_true rfl, Nat.le_of_ble_eq_true rfl⟩ (Nat.le_of_ble_eq_true rfl) ?_
        refine z_icmp_le X 28 dX2_sleepersByTurns_22 (by decide) h (fun _ h => ?_) (fun _ h => ?_)
        · refine z_iinc X 3 [(3, .int (x3 + 1)), (0, .ref q_this), (1, .int p1), (2, .int x2)] dX2_sleepersByTurns_28 rfl rfl (by decide) rfl ?_
          refine z_goto X 4 dX2_sleepersByTurns_31 (by decide) ?_
          refine z_sub (lv' := [(0, .ref q_this), (1, .int p1), (2, .int x2), (3, .int (x3 + 1))]) [1, 2, 3, 0] rfl ?_
          exact ih4 x2 (x3 + 1) h
        · refine z_iinc X 2 [(2, .int (x2 + 1)), (0, .ref q_this), (1, .int p1), (3, .int x3)] dX2_sleepersByTurns_25 rfl rfl (by decide) rfl ?_
          refine z_iinc X 3 [(3, .int (x3 + 1)), (2, .int (x2 + 1)), (0, .ref q_this), (1, .int p1)] dX2_sleepersByTurns_28 rfl rfl (by decide) rfl ?_
          refine z_goto X 4 dX2_sleepersByTurns_31 (by decide) ?_
          refine z_sub (lv' := [(0, .ref q_this), (1, .int p1), (2, .int (x2 + 1)), (3, .int (x3 + 1))]) [2, 3, 1, 0] rfl ?_
          exact ih4 (x2 + 1) (x3 + 1) h
  refine z_iconst X (0 : Int32) dX2_sleepersByTurns_0 (by decide) ?_
  refine z_istore_n X [(2, .int (0 : Int32)), (0, .ref q_this), (1, .int p1)] dX2_sleepersByTurns_1 rfl (by decide) rfl ?_
  refine z_iconst X (0 : Int32) dX2_sleepersByTurns_2 (by decide) ?_
  refine z_istore_n X [(3, .int (0 : Int32)), (2, .int (0 : Int32)), (0, .ref q_this), (1, .int p1)] dX2_sleepersByTurns_3 rfl (by decide) rfl ?_
  refine z_sub (lv' := [(0, .ref q_this), (1, .int p1), (2, .int (0 : Int32)), (3, .int (0 : Int32))]) [2, 3, 1, 0] rfl ?_
  exact H4 100 (0 : Int32) (0 : Int32) h

def L_X2_sleepers_4 (p1 : Int32) (f_size : Int32) (a_froms : Nat → Int32) (a_tos : Nat → Int32) : Nat → Int32 → Int32 → Option (Int32)
  | 0, _, _ => none
  | _n + 1, x2, x3 =>
    brn (f_size ≤ x3) (some (x2)) (bnd (F_X2_isAsleep x3 p1 a_froms a_tos) (fun o1 => brn (o1 = 0) (L_X2_sleepers_4 p1 f_size a_froms a_tos _n x2 (x3 + 1)) (L_X2_sleepers_4 p1 f_size a_froms a_tos _n (x2 + 1) (x3 + 1))))

def F_X2_sleepers (p1 : Int32) (f_size : Int32) (a_froms : Nat → Int32) (a_tos : Nat → Int32) : Option (Int32) :=
  L_X2_sleepers_4 p1 f_size a_froms a_tos 100 (0 : Int32) (0 : Int32)
theorem dX2_sleepers_0 : decode cX2_sleepers 0 = .ok (.iconst 0, 1) := by decide +kernel
theorem dX2_sleepers_1 : decode cX2_sleepers 1 = .ok (.istore_n 2, 1) := by decide +kernel
theorem dX2_sleepers_2 : decode cX2_sleepers 2 = .ok (.iconst 0, 1) := by decide +kernel
theorem dX2_sleepers_3 : decode cX2_sleepers 3 = .ok (.istore_n 3, 1) := by decide +kernel
theorem dX2_sleepers_4 : decode cX2_sleepers 4 = .ok (.iload_n 3, 1) := by decide +kernel
theorem dX2_sleepers_5 : decode cX2_sleepers 5 = .ok (.aload_n 0, 1) := by decide +kernel
theorem dX2_sleepers_6 : decode cX2_sleepers 6 = .ok (.getfield 27, 3) := by decide +kernel
theorem dX2_sleepers_9 : decode cX2_sleepers 9 = .ok (.if_icmp .ge 21, 3) := by decide +kernel
theorem dX2_sleepers_12 : decode cX2_sleepers 12 = .ok (.aload_n 0, 1) := by decide +kernel
theorem dX2_sleepers_13 : decode cX2_sleepers 13 = .ok (.iload_n 3, 1) := by decide +kernel
theorem dX2_sleepers_14 : decode cX2_sleepers 14 = .ok (.iload_n 1, 1) := by decide +kernel
theorem dX2_sleepers_15 : decode cX2_sleepers 15 = .ok (.invokevirtual 65, 3) := by decide +kernel
theorem dX2_sleepers_18 : decode cX2_sleepers 18 = .ok (.ifCond .eq 6, 3) := by decide +kernel
theorem dX2_sleepers_21 : decode cX2_sleepers 21 = .ok (.iinc 2 1, 3) := by decide +kernel
theorem dX2_sleepers_24 : decode cX2_sleepers 24 = .ok (.iinc 3 1, 3) := by decide +kernel
theorem dX2_sleepers_27 : decode cX2_sleepers 27 = .ok (.goto (-23), 3) := by decide +kernel
theorem dX2_sleepers_30 : decode cX2_sleepers 30 = .ok (.iload_n 2, 1) := by decide +kernel
theorem dX2_sleepers_31 : decode cX2_sleepers 31 = .ok (.ireturn, 1) := by decide +kernel
theorem k_X2_sleepers : cardV yX2_sleepers (Cond.code yX2_sleepers cX2_sleepers 4 (some .int)) 1 := ⟨⟨qi_X2_sleepers, qv_X2_sleepers⟩, qc_X2_sleepers, qn_X2, by decide +kernel, by decide +kernel, by decide +kernel⟩
set_option maxHeartbeats 4000000 in
set_option maxRecDepth 100000 in
theorem c_X2_sleepers (l : Launch) (D : va_G) (g : Nat → ClassId) (q_this q_cells q_froms q_tos q_rings q_pranks : Nat) (p1 : Int32) (f_size : Int32) (a_froms : Nat → Int32) (a_tos : Nat → Int32) (o : Int32) (h : F_X2_sleepers p1 f_size a_froms a_tos = some o) : MR l yX2_sleepers (Cond.code yX2_sleepers cX2_sleepers 4 (some .int)) { frames := 2, cells := 0, slots := 0, locals := 45 } D g [.ref q_this, .int p1] [(q_this, .inr (3, [.int f_size, .ref q_cells, .ref q_froms, .ref q_tos, .ref q_rings, .ref q_pranks])), (q_froms, .inl (g 0, 10, .inl a_froms)), (q_tos, .inl (g 0, 10, .inl a_tos))] (some (.int o)) := by
  refine z_rd_start (by decide) (Nat.le_of_ble_eq_true rfl) ?_
  intro p e s m args below meth c Q X hr hQ
  refine z_lv (lv' := [(0, .ref q_this), (1, .int p1)]) rfl ?_
  have H4 : ∀ (n : Nat) (x2 : Int32) (x3 : Int32), L_X2_sleepers_4 p1 f_size a_froms a_tos  n x2 x3 = some o → Z p l e { frames := 2, cells := 0, slots := 0, locals := 45 } s m args below meth c Q 4 0 0 (IR D [(q_this, .inr (3, [.int f_size, .ref q_cells, .ref q_froms, .ref q_tos, .ref q_rings, .ref q_pranks])), (q_froms, .inl (g 0, 10, .inl a_froms)), (q_tos, .inl (g 0, 10, .inl a_tos))] s) 4 [(0, .ref q_this), (1, .int p1), (2, .int x2), (3, .int x3)] [] := by
    intro n
    induction n with
    | zero => intro x2 x3 h; cases h
    | succ n4 ih4 =>
      intro x2 x3 h
      refine z_iload_n X 3 dX2_sleepers_4 rfl rfl ?_
      refine z_aload_n X 0 dX2_sleepers_5 rfl rfl ?_
      refine z_get (q0 := 0) (k := 0) (ci := 3) X IR_P iw_X2 rfl qf_X2_X2_size (by decide) dX2_sleepers_6 rfl rfl ?_
      refine z_icmp_ge X 30 dX2_sleepers_9 (by decide) h (fun _ h => ?_) (fun _ h => ?_)
      · refine z_iload_n X 2 dX2_sleepers_30 rfl rfl ?_
        exact z_iretR X hQ hr dX2_sleepers_31 h
      · refine z_aload_n X 0 dX2_sleepers_12 rfl rfl ?_
        refine z_iload_n X 3 dX2_sleepers_13 rfl rfl ?_
        refine z_iload_n X 1 dX2_sleepers_14 rfl rfl ?_
        obtain ⟨o1, e2, h⟩ := bnd_p h
        refine z_rdV (rest := []) (q0 := 0) (ci := 3) X IR_P k_X2_isAsleep (c_X2_isAsleep l D g q_this q_cells q_froms q_tos q_rings q_pranks x3 p1 f_size a_froms a_tos o1 e2) ql_X2_X2_isAsleep dX2_sleepers_15 [0, 1, 2] rfl rfl rfl rfl rfl rfl ⟨Nat.le_of_ble_eq_true rfl, Nat.le_of_ble_eq_true rfl, rfl, rfl, Nat.le_of_ble_eq_true rfl, Nat.le_of_ble_eq_true rfl⟩ (Nat.le_of_ble_eq_true rfl) ?_
        refine z_if_eq X 24 dX2_sleepers_18 (by decide) h (fun _ h => ?_) (fun _ h => ?_)
        · refine z_iinc X 3 [(3, .int (x3 + 1)), (0, .ref q_this), (1, .int p1), (2, .int x2)] dX2_sleepers_24 rfl rfl (by decide) rfl ?_
          refine z_goto X 4 dX2_sleepers_27 (by decide) ?_
          refine z_sub (lv' := [(0, .ref q_this), (1, .int p1), (2, .int x2), (3, .int (x3 + 1))]) [1, 2, 3, 0] rfl ?_
          exact ih4 x2 (x3 + 1) h
        · refine z_iinc X 2 [(2, .int (x2 + 1)), (0, .ref q_this), (1, .int p1), (3, .int x3)] dX2_sleepers_21 rfl rfl (by decide) rfl ?_
          refine z_iinc X 3 [(3, .int (x3 + 1)), (2, .int (x2 + 1)), (0, .ref q_this), (1, .int p1)] dX2_sleepers_24 rfl rfl (by decide) rfl ?_
          refine z_goto X 4 dX2_sleepers_27 (by decide) ?_
          refine z_sub (lv' := [(0, .ref q_this), (1, .int p1), (2, .int (x2 + 1)), (3, .int (x3 + 1))]) [2, 3, 1, 0] rfl ?_
          exact ih4 (x2 + 1) (x3 + 1) h
  refine z_iconst X (0 : Int32) dX2_sleepers_0 (by decide) ?_
  refine z_istore_n X [(2, .int (0 : Int32)), (0, .ref q_this), (1, .int p1)] dX2_sleepers_1 rfl (by decide) rfl ?_
  refine z_iconst X (0 : Int32) dX2_sleepers_2 (by decide) ?_
  refine z_istore_n X [(3, .int (0 : Int32)), (2, .int (0 : Int32)), (0, .ref q_this), (1, .int p1)] dX2_sleepers_3 rfl (by decide) rfl ?_
  refine z_sub (lv' := [(0, .ref q_this), (1, .int p1), (2, .int (0 : Int32)), (3, .int (0 : Int32))]) [2, 3, 1, 0] rfl ?_
  exact H4 100 (0 : Int32) (0 : Int32) h

def L_X2_deepestHour_6 (f_size : Int32) (a_froms : Nat → Int32) (a_tos : Nat → Int32) : Nat → Int32 → Int32 → Int32 → Option (Int32)
  | 0, _, _, _ => none
  | _n + 1, x1, x2, x3 =>
    brn ((24 : Int32) ≤ x3) (some (x2)) (bnd (F_X2_sleepers x3 f_size a_froms a_tos) (fun o1 => brn (o1 ≤ x1) (L_X2_deepestHour_6 f_size a_froms a_tos _n x1 x2 (x3 + 1)) (L_X2_deepestHour_6 f_size a_froms a_tos _n o1 x3 (x3 + 1))))

def F_X2_deepestHour (f_size : Int32) (a_froms : Nat → Int32) (a_tos : Nat → Int32) : Option (Int32) :=
  L_X2_deepestHour_6 f_size a_froms a_tos 100 (0 : Int32) ((-1) : Int32) (0 : Int32)
theorem dX2_deepestHour_0 : decode cX2_deepestHour 0 = .ok (.iconst 0, 1) := by decide +kernel
theorem dX2_deepestHour_1 : decode cX2_deepestHour 1 = .ok (.istore_n 1, 1) := by decide +kernel
theorem dX2_deepestHour_2 : decode cX2_deepestHour 2 = .ok (.iconst (-1), 1) := by decide +kernel
theorem dX2_deepestHour_3 : decode cX2_deepestHour 3 = .ok (.istore_n 2, 1) := by decide +kernel
theorem dX2_deepestHour_4 : decode cX2_deepestHour 4 = .ok (.iconst 0, 1) := by decide +kernel
theorem dX2_deepestHour_5 : decode cX2_deepestHour 5 = .ok (.istore_n 3, 1) := by decide +kernel
theorem dX2_deepestHour_6 : decode cX2_deepestHour 6 = .ok (.iload_n 3, 1) := by decide +kernel
theorem dX2_deepestHour_7 : decode cX2_deepestHour 7 = .ok (.bipush 24, 2) := by decide +kernel
theorem dX2_deepestHour_9 : decode cX2_deepestHour 9 = .ok (.if_icmp .ge 27, 3) := by decide +kernel
theorem dX2_deepestHour_12 : decode cX2_deepestHour 12 = .ok (.aload_n 0, 1) := by decide +kernel
theorem dX2_deepestHour_13 : decode cX2_deepestHour 13 = .ok (.iload_n 3, 1) := by decide +kernel
theorem dX2_deepestHour_14 : decode cX2_deepestHour 14 = .ok (.invokevirtual 72, 3) := by decide +kernel
theorem dX2_deepestHour_17 : decode cX2_deepestHour 17 = .ok (.istore 4, 2) := by decide +kernel
theorem dX2_deepestHour_19 : decode cX2_deepestHour 19 = .ok (.iload 4, 2) := by decide +kernel
theorem dX2_deepestHour_21 : decode cX2_deepestHour 21 = .ok (.iload_n 1, 1) := by decide +kernel
theorem dX2_deepestHour_22 : decode cX2_deepestHour 22 = .ok (.if_icmp .le 8, 3) := by decide +kernel
theorem dX2_deepestHour_25 : decode cX2_deepestHour 25 = .ok (.iload 4, 2) := by decide +kernel
theorem dX2_deepestHour_27 : decode cX2_deepestHour 27 = .ok (.istore_n 1, 1) := by decide +kernel
theorem dX2_deepestHour_28 : decode cX2_deepestHour 28 = .ok (.iload_n 3, 1) := by decide +kernel
theorem dX2_deepestHour_29 : decode cX2_deepestHour 29 = .ok (.istore_n 2, 1) := by decide +kernel
theorem dX2_deepestHour_30 : decode cX2_deepestHour 30 = .ok (.iinc 3 1, 3) := by decide +kernel
theorem dX2_deepestHour_33 : decode cX2_deepestHour 33 = .ok (.goto (-27), 3) := by decide +kernel
theorem dX2_deepestHour_36 : decode cX2_deepestHour 36 = .ok (.iload_n 2, 1) := by decide +kernel
theorem dX2_deepestHour_37 : decode cX2_deepestHour 37 = .ok (.ireturn, 1) := by decide +kernel
theorem k_X2_deepestHour : cardV yX2_deepestHour (Cond.code yX2_deepestHour cX2_deepestHour 5 (some .int)) 0 := ⟨⟨qi_X2_deepestHour, qv_X2_deepestHour⟩, qc_X2_deepestHour, qn_X2, by decide +kernel, by decide +kernel, by decide +kernel⟩
set_option maxHeartbeats 4000000 in
set_option maxRecDepth 100000 in
theorem c_X2_deepestHour (l : Launch) (D : va_G) (g : Nat → ClassId) (q_this q_cells q_froms q_tos q_rings q_pranks : Nat) (f_size : Int32) (a_froms : Nat → Int32) (a_tos : Nat → Int32) (o : Int32) (h : F_X2_deepestHour f_size a_froms a_tos = some o) : MR l yX2_deepestHour (Cond.code yX2_deepestHour cX2_deepestHour 5 (some .int)) { frames := 3, cells := 0, slots := 0, locals := 68 } D g [.ref q_this] [(q_this, .inr (3, [.int f_size, .ref q_cells, .ref q_froms, .ref q_tos, .ref q_rings, .ref q_pranks])), (q_froms, .inl (g 0, 10, .inl a_froms)), (q_tos, .inl (g 0, 10, .inl a_tos))] (some (.int o)) := by
  refine z_rd_start (by decide) (Nat.le_of_ble_eq_true rfl) ?_
  intro p e s m args below meth c Q X hr hQ
  refine z_lv (lv' := [(0, .ref q_this)]) rfl ?_
  have H6 : ∀ (n : Nat) (x1 : Int32) (x2 : Int32) (x3 : Int32), L_X2_deepestHour_6 f_size a_froms a_tos  n x1 x2 x3 = some o → Z p l e { frames := 3, cells := 0, slots := 0, locals := 68 } s m args below meth c Q 5 0 0 (IR D [(q_this, .inr (3, [.int f_size, .ref q_cells, .ref q_froms, .ref q_tos, .ref q_rings, .ref q_pranks])), (q_froms, .inl (g 0, 10, .inl a_froms)), (q_tos, .inl (g 0, 10, .inl a_tos))] s) 6 [(0, .ref q_this), (1, .int x1), (2, .int x2), (3, .int x3)] [] := by
    intro n
    induction n with
    | zero => intro x1 x2 x3 h; cases h
    | succ n6 ih6 =>
      intro x1 x2 x3 h
      refine z_iload_n X 3 dX2_deepestHour_6 rfl rfl ?_
      refine z_bipush X (24 : Int32) dX2_deepestHour_7 (by decide) ?_
      refine z_icmp_ge X 36 dX2_deepestHour_9 (by decide) h (fun _ h => ?_) (fun _ h => ?_)
      · refine z_iload_n X 2 dX2_deepestHour_36 rfl rfl ?_
        exact z_iretR X hQ hr dX2_deepestHour_37 h
      · refine z_aload_n X 0 dX2_deepestHour_12 rfl rfl ?_
        refine z_iload_n X 3 dX2_deepestHour_13 rfl rfl ?_
        obtain ⟨o1, e2, h⟩ := bnd_p h
        refine z_rdV (rest := []) (q0 := 0) (ci := 3) X IR_P k_X2_sleepers (c_X2_sleepers l D g q_this q_cells q_froms q_tos q_rings q_pranks x3 f_size a_froms a_tos o1 e2) ql_X2_X2_sleepers dX2_deepestHour_14 [0, 1, 2] rfl rfl rfl rfl rfl rfl ⟨Nat.le_of_ble_eq_true rfl, Nat.le_of_ble_eq_true rfl, rfl, rfl, Nat.le_of_ble_eq_true rfl, Nat.le_of_ble_eq_true rfl⟩ (Nat.le_of_ble_eq_true rfl) ?_
        refine z_istore X [(4, .int o1), (0, .ref q_this), (1, .int x1), (2, .int x2), (3, .int x3)] dX2_deepestHour_17 (by decide) rfl ?_
        refine z_iload X 0 dX2_deepestHour_19 rfl ?_
        refine z_iload_n X 2 dX2_deepestHour_21 rfl rfl ?_
        refine z_icmp_le X 30 dX2_deepestHour_22 (by decide) h (fun _ h => ?_) (fun _ h => ?_)
        · refine z_iinc X 4 [(3, .int (x3 + 1)), (4, .int o1), (0, .ref q_this), (1, .int x1), (2, .int x2)] dX2_deepestHour_30 rfl rfl (by decide) rfl ?_
          refine z_goto X 6 dX2_deepestHour_33 (by decide) ?_
          refine z_sub (lv' := [(0, .ref q_this), (1, .int x1), (2, .int x2), (3, .int (x3 + 1))]) [2, 3, 4, 0] rfl ?_
          exact ih6 x1 x2 (x3 + 1) h
        · refine z_iload X 0 dX2_deepestHour_25 rfl ?_
          refine z_istore_n X [(1, .int o1), (4, .int o1), (0, .ref q_this), (2, .int x2), (3, .int x3)] dX2_deepestHour_27 rfl (by decide) rfl ?_
          refine z_iload_n X 4 dX2_deepestHour_28 rfl rfl ?_
          refine z_istore_n X [(2, .int x3), (1, .int o1), (4, .int o1), (0, .ref q_this), (3, .int x3)] dX2_deepestHour_29 rfl (by decide) rfl ?_
          refine z_iinc X 4 [(3, .int (x3 + 1)), (2, .int x3), (1, .int o1), (4, .int o1), (0, .ref q_this)] dX2_deepestHour_30 rfl rfl (by decide) rfl ?_
          refine z_goto X 6 dX2_deepestHour_33 (by decide) ?_
          refine z_sub (lv' := [(0, .ref q_this), (1, .int o1), (2, .int x3), (3, .int (x3 + 1))]) [4, 2, 1, 0] rfl ?_
          exact ih6 o1 x3 (x3 + 1) h
  refine z_iconst X (0 : Int32) dX2_deepestHour_0 (by decide) ?_
  refine z_istore_n X [(1, .int (0 : Int32)), (0, .ref q_this)] dX2_deepestHour_1 rfl (by decide) rfl ?_
  refine z_iconst X ((-1) : Int32) dX2_deepestHour_2 (by decide) ?_
  refine z_istore_n X [(2, .int ((-1) : Int32)), (1, .int (0 : Int32)), (0, .ref q_this)] dX2_deepestHour_3 rfl (by decide) rfl ?_
  refine z_iconst X (0 : Int32) dX2_deepestHour_4 (by decide) ?_
  refine z_istore_n X [(3, .int (0 : Int32)), (2, .int ((-1) : Int32)), (1, .int (0 : Int32)), (0, .ref q_this)] dX2_deepestHour_5 rfl (by decide) rfl ?_
  refine z_sub (lv' := [(0, .ref q_this), (1, .int (0 : Int32)), (2, .int ((-1) : Int32)), (3, .int (0 : Int32))]) [3, 2, 1, 0] rfl ?_
  exact H6 100 (0 : Int32) ((-1) : Int32) (0 : Int32) h

def F_X11_isTones (p0 : Int32) : Option (Int32) :=
  bnd (F_X11_isWithin p0 (0 : Int32) (9 : Int32)) (fun o1 => grd (o1 = 0 ∨ o1 = 1) (some (o1)))
theorem dX11_isTones_0 : decode cX11_isTones 0 = .ok (.iload_n 0, 1) := by decide +kernel
theorem dX11_isTones_1 : decode cX11_isTones 1 = .ok (.iconst 0, 1) := by decide +kernel
theorem dX11_isTones_2 : decode cX11_isTones 2 = .ok (.bipush 9, 2) := by decide +kernel
theorem dX11_isTones_4 : decode cX11_isTones 4 = .ok (.invokestatic 120, 3) := by decide +kernel
theorem dX11_isTones_7 : decode cX11_isTones 7 = .ok (.ireturn, 1) := by decide +kernel
theorem k_X11_isTones : cardS yX11_isTones (Cond.code yX11_isTones cX11_isTones 1 (some .boolean)) 1 := ⟨qs_X11_isTones, qc_X11_isTones, qn_X11, by decide +kernel, by decide +kernel, by decide +kernel⟩
set_option maxHeartbeats 4000000 in
set_option maxRecDepth 100000 in
theorem c_X11_isTones (l : Launch) (D : va_G) (g : Nat → ClassId) (p0 : Int32) (o : Int32) (h : F_X11_isTones p0 = some o) : MR l yX11_isTones (Cond.code yX11_isTones cX11_isTones 1 (some .boolean)) { frames := 1, cells := 0, slots := 0, locals := 22 } D g [.int p0] [] (some (.int o)) := by
  refine z_rd_start (by decide) (Nat.le_of_ble_eq_true rfl) ?_
  intro p e s m args below meth c Q X hr hQ
  refine z_lv (lv' := [(0, .int p0)]) rfl ?_
  refine z_iload_n X 0 dX11_isTones_0 rfl rfl ?_
  refine z_iconst X (0 : Int32) dX11_isTones_1 (by decide) ?_
  refine z_bipush X (9 : Int32) dX11_isTones_2 (by decide) ?_
  obtain ⟨o1, e2, h⟩ := bnd_p h
  refine z_rdS (rest := []) X IR_P k_X11_isWithin (c_X11_isWithin l D g p0 (0 : Int32) (9 : Int32) o1 e2) ql_X11_X11_isWithin dX11_isTones_4 [] rfl rfl rfl ⟨Nat.le_of_ble_eq_true rfl, Nat.le_of_ble_eq_true rfl, rfl, rfl, Nat.le_of_ble_eq_true rfl, Nat.le_of_ble_eq_true rfl⟩ (Nat.le_of_ble_eq_true rfl) ?_
  obtain ⟨e3, h⟩ := grd_p h
  exact z_zretR X hQ hr dX11_isTones_7 (nar_bool e3) h

def F_X9_judgeRing (p1 : Int32) (p2 : Int32) (p3 : Int32) (f_houses_size : Int32) : Option (Int32) :=
  bnd (F_X2_has p1 f_houses_size) (fun o1 => brn (o1 = 0) (some ((1 : Int32))) (bnd (F_X11_isTones p2) (fun o3 => brn (o3 = 0) (some ((2 : Int32))) (bnd (F_X11_isTones p3) (fun o5 => brn (o5 = 0) (some ((2 : Int32))) (brn ((p2 + p3) ≤ 0) (some ((2 : Int32))) (some ((0 : Int32)))))))))
theorem dX9_judgeRing_0 : decode cX9_judgeRing 0 = .ok (.aload_n 0, 1) := by decide +kernel
theorem dX9_judgeRing_1 : decode cX9_judgeRing 1 = .ok (.getfield 12, 3) := by decide +kernel
theorem dX9_judgeRing_4 : decode cX9_judgeRing 4 = .ok (.iload_n 1, 1) := by decide +kernel
theorem dX9_judgeRing_5 : decode cX9_judgeRing 5 = .ok (.invokevirtual 113, 3) := by decide +kernel
theorem dX9_judgeRing_8 : decode cX9_judgeRing 8 = .ok (.ifCond .ne 5, 3) := by decide +kernel
theorem dX9_judgeRing_11 : decode cX9_judgeRing 11 = .ok (.iconst 1, 1) := by decide +kernel
theorem dX9_judgeRing_12 : decode cX9_judgeRing 12 = .ok (.ireturn, 1) := by decide +kernel
theorem dX9_judgeRing_13 : decode cX9_judgeRing 13 = .ok (.iload_n 2, 1) := by decide +kernel
theorem dX9_judgeRing_14 : decode cX9_judgeRing 14 = .ok (.invokestatic 116, 3) := by decide +kernel
theorem dX9_judgeRing_17 : decode cX9_judgeRing 17 = .ok (.ifCond .eq 20, 3) := by decide +kernel
theorem dX9_judgeRing_20 : decode cX9_judgeRing 20 = .ok (.iload_n 3, 1) := by decide +kernel
theorem dX9_judgeRing_21 : decode cX9_judgeRing 21 = .ok (.invokestatic 116, 3) := by decide +kernel
theorem dX9_judgeRing_24 : decode cX9_judgeRing 24 = .ok (.ifCond .eq 13, 3) := by decide +kernel
theorem dX9_judgeRing_27 : decode cX9_judgeRing 27 = .ok (.iload_n 2, 1) := by decide +kernel
theorem dX9_judgeRing_28 : decode cX9_judgeRing 28 = .ok (.iload_n 3, 1) := by decide +kernel
theorem dX9_judgeRing_29 : decode cX9_judgeRing 29 = .ok (.iadd, 1) := by decide +kernel
theorem dX9_judgeRing_30 : decode cX9_judgeRing 30 = .ok (.ifCond .le 7, 3) := by decide +kernel
theorem dX9_judgeRing_33 : decode cX9_judgeRing 33 = .ok (.iconst 0, 1) := by decide +kernel
theorem dX9_judgeRing_34 : decode cX9_judgeRing 34 = .ok (.goto 4, 3) := by decide +kernel
theorem dX9_judgeRing_37 : decode cX9_judgeRing 37 = .ok (.iconst 2, 1) := by decide +kernel
theorem dX9_judgeRing_38 : decode cX9_judgeRing 38 = .ok (.ireturn, 1) := by decide +kernel
theorem k_X9_judgeRing : cardV yX9_judgeRing (Cond.code yX9_judgeRing cX9_judgeRing 4 (some .int)) 3 := ⟨⟨qi_X9_judgeRing, qv_X9_judgeRing⟩, qc_X9_judgeRing, qn_X9, by decide +kernel, by decide +kernel, by decide +kernel⟩
set_option maxHeartbeats 4000000 in
set_option maxRecDepth 100000 in
theorem c_X9_judgeRing (l : Launch) (D : va_G) (g : Nat → ClassId) (q_this q_houses q_halls q_posts q_blocks q_kinds q_houses_cells q_houses_froms q_houses_tos q_houses_rings q_houses_pranks : Nat) (p1 p2 p3 : Int32) (f_hour : Int32) (f_day : Int32) (f_prankHouse : Int32) (f_bells : Int32) (f_echoes : Int32) (f_bellPranks : Int32) (f_houses_size : Int32) (o : Int32) (h : F_X9_judgeRing p1 p2 p3 f_houses_size = some o) : MR l yX9_judgeRing (Cond.code yX9_judgeRing cX9_judgeRing 4 (some .int)) { frames := 2, cells := 0, slots := 0, locals := 42 } D g [.ref q_this, .int p1, .int p2, .int p3] [(q_this, .inr (9, [.ref q_houses, .ref q_halls, .ref q_posts, .ref q_blocks, .ref q_kinds, .int f_hour, .int f_day, .int f_prankHouse, .int f_bells, .int f_echoes, .int f_bellPranks])), (q_houses, .inr (3, [.int f_houses_size, .ref q_houses_cells, .ref q_houses_froms, .ref q_houses_tos, .ref q_houses_rings, .ref q_houses_pranks]))] (some (.int o)) := by
  refine z_rd_start (by decide) (Nat.le_of_ble_eq_true rfl) ?_
  intro p e s m args below meth c Q X hr hQ
  refine z_lv (lv' := [(0, .ref q_this), (1, .int p1), (2, .int p2), (3, .int p3)]) rfl ?_
  refine z_aload_n X 0 dX9_judgeRing_0 rfl rfl ?_
  refine z_get (q0 := 0) (k := 0) (ci := 9) X IR_P iw_X9 rfl qf_X9_X9_houses (by decide) dX9_judgeRing_1 rfl rfl ?_
  refine z_iload_n X 1 dX9_judgeRing_4 rfl rfl ?_
  obtain ⟨o1, e2, h⟩ := bnd_p h
  refine z_rdV (rest := []) (q0 := 1) (ci := 3) X IR_P k_X2_has (c_X2_has l D g q_houses q_houses_cells q_houses_froms q_houses_tos q_houses_rings q_houses_pranks p1 f_houses_size o1 e2) ql_X9_X2_has dX9_judgeRing_5 [1] rfl rfl rfl rfl rfl rfl ⟨Nat.le_of_ble_eq_true rfl, Nat.le_of_ble_eq_true rfl, rfl, rfl, Nat.le_of_ble_eq_true rfl, Nat.le_of_ble_eq_true rfl⟩ (Nat.le_of_ble_eq_true rfl) ?_
  refine z_if_ne X 13 dX9_judgeRing_8 (by decide) h (fun _ h => ?_) (fun _ h => ?_)
  · refine z_iconst X (1 : Int32) dX9_judgeRing_11 (by decide) ?_
    exact z_iretR X hQ hr dX9_judgeRing_12 h
  · refine z_iload_n X 2 dX9_judgeRing_13 rfl rfl ?_
    obtain ⟨o3, e4, h⟩ := bnd_p h
    refine z_rdSN (rest := []) X IR_P k_X11_isTones (c_X11_isTones l D g p2 o3 e4) qlN_X9_X11_isTones dX9_judgeRing_14 [] rfl rfl rfl ⟨Nat.le_of_ble_eq_true rfl, Nat.le_of_ble_eq_true rfl, rfl, rfl, Nat.le_of_ble_eq_true rfl, Nat.le_of_ble_eq_true rfl⟩ (Nat.le_of_ble_eq_true rfl) ?_
    refine z_if_eq X 37 dX9_judgeRing_17 (by decide) h (fun _ h => ?_) (fun _ h => ?_)
    · refine z_iconst X (2 : Int32) dX9_judgeRing_37 (by decide) ?_
      exact z_iretR X hQ hr dX9_judgeRing_38 h
    · refine z_iload_n X 3 dX9_judgeRing_20 rfl rfl ?_
      obtain ⟨o5, e6, h⟩ := bnd_p h
      refine z_rdSN (rest := []) X IR_P k_X11_isTones (c_X11_isTones l D g p3 o5 e6) qlN_X9_X11_isTones dX9_judgeRing_21 [] rfl rfl rfl ⟨Nat.le_of_ble_eq_true rfl, Nat.le_of_ble_eq_true rfl, rfl, rfl, Nat.le_of_ble_eq_true rfl, Nat.le_of_ble_eq_true rfl⟩ (Nat.le_of_ble_eq_true rfl) ?_
      refine z_if_eq X 37 dX9_judgeRing_24 (by decide) h (fun _ h => ?_) (fun _ h => ?_)
      · refine z_iconst X (2 : Int32) dX9_judgeRing_37 (by decide) ?_
        exact z_iretR X hQ hr dX9_judgeRing_38 h
      · refine z_iload_n X 2 dX9_judgeRing_27 rfl rfl ?_
        refine z_iload_n X 3 dX9_judgeRing_28 rfl rfl ?_
        refine z_iadd X dX9_judgeRing_29 ?_
        refine z_if_le X 37 dX9_judgeRing_30 (by decide) h (fun _ h => ?_) (fun _ h => ?_)
        · refine z_iconst X (2 : Int32) dX9_judgeRing_37 (by decide) ?_
          exact z_iretR X hQ hr dX9_judgeRing_38 h
        · refine z_iconst X (0 : Int32) dX9_judgeRing_33 (by decide) ?_
          refine z_goto X 38 dX9_judgeRing_34 (by decide) ?_
          exact z_iretR X hQ hr dX9_judgeRing_38 h

def J_X9_kindAt_56 (p1 : Int32) (p2 : Int32) (p3 : Int32) (p4 : Int32) (a_houses_froms : Nat → Int32) (a_houses_tos : Nat → Int32) : Option (Int32) :=
  brn (p3 = 0) (brn (p4 < (3 : Int32)) (some ((3 : Int32))) (some ((2 : Int32)))) (some ((3 : Int32)))

def J_X9_kindAt_28 (p1 : Int32) (p2 : Int32) (p3 : Int32) (p4 : Int32) (a_houses_froms : Nat → Int32) (a_houses_tos : Nat → Int32) : Option (Int32) :=
  brn (p4 = 0) (brn (p3 = (2 : Int32)) (bnd (F_X2_isAsleep p1 p2 a_houses_froms a_houses_tos) (fun o3 => brn (o3 = 0) (some ((1 : Int32))) (some ((3 : Int32))))) (J_X9_kindAt_56 p1 p2 p3 p4 a_houses_froms a_houses_tos)) (J_X9_kindAt_56 p1 p2 p3 p4 a_houses_froms a_houses_tos)

def F_X9_kindAt (p1 : Int32) (p2 : Int32) (p3 : Int32) (p4 : Int32) (a_houses_froms : Nat → Int32) (a_houses_tos : Nat → Int32) : Option (Int32) :=
  brn (p4 = 0) (brn (p3 = (1 : Int32)) (bnd (F_X2_isAsleep p1 p2 a_houses_froms a_houses_tos) (fun o1 => brn (o1 = 0) (some ((0 : Int32))) (some ((3 : Int32))))) (J_X9_kindAt_28 p1 p2 p3 p4 a_houses_froms a_houses_tos)) (J_X9_kindAt_28 p1 p2 p3 p4 a_houses_froms a_houses_tos)
theorem dX9_kindAt_0 : decode cX9_kindAt 0 = .ok (.iload 4, 2) := by decide +kernel
theorem dX9_kindAt_2 : decode cX9_kindAt 2 = .ok (.ifCond .ne 26, 3) := by decide +kernel
theorem dX9_kindAt_5 : decode cX9_kindAt 5 = .ok (.iload_n 3, 1) := by decide +kernel
theorem dX9_kindAt_6 : decode cX9_kindAt 6 = .ok (.iconst 1, 1) := by decide +kernel
theorem dX9_kindAt_7 : decode cX9_kindAt 7 = .ok (.if_icmp .ne 21, 3) := by decide +kernel
theorem dX9_kindAt_10 : decode cX9_kindAt 10 = .ok (.aload_n 0, 1) := by decide +kernel
theorem dX9_kindAt_11 : decode cX9_kindAt 11 = .ok (.getfield 12, 3) := by decide +kernel
theorem dX9_kindAt_14 : decode cX9_kindAt 14 = .ok (.iload_n 1, 1) := by decide +kernel
theorem dX9_kindAt_15 : decode cX9_kindAt 15 = .ok (.iload_n 2, 1) := by decide +kernel
theorem dX9_kindAt_16 : decode cX9_kindAt 16 = .ok (.invokevirtual 143, 3) := by decide +kernel
theorem dX9_kindAt_19 : decode cX9_kindAt 19 = .ok (.ifCond .eq 7, 3) := by decide +kernel
theorem dX9_kindAt_22 : decode cX9_kindAt 22 = .ok (.iconst 3, 1) := by decide +kernel
theorem dX9_kindAt_23 : decode cX9_kindAt 23 = .ok (.goto 4, 3) := by decide +kernel
theorem dX9_kindAt_26 : decode cX9_kindAt 26 = .ok (.iconst 0, 1) := by decide +kernel
theorem dX9_kindAt_27 : decode cX9_kindAt 27 = .ok (.ireturn, 1) := by decide +kernel
theorem dX9_kindAt_28 : decode cX9_kindAt 28 = .ok (.iload 4, 2) := by decide +kernel
theorem dX9_kindAt_30 : decode cX9_kindAt 30 = .ok (.ifCond .ne 26, 3) := by decide +kernel
theorem dX9_kindAt_33 : decode cX9_kindAt 33 = .ok (.iload_n 3, 1) := by decide +kernel
theorem dX9_kindAt_34 : decode cX9_kindAt 34 = .ok (.iconst 2, 1) := by decide +kernel
theorem dX9_kindAt_35 : decode cX9_kindAt 35 = .ok (.if_icmp .ne 21, 3) := by decide +kernel
theorem dX9_kindAt_38 : decode cX9_kindAt 38 = .ok (.aload_n 0, 1) := by decide +kernel
theorem dX9_kindAt_39 : decode cX9_kindAt 39 = .ok (.getfield 12, 3) := by decide +kernel
theorem dX9_kindAt_42 : decode cX9_kindAt 42 = .ok (.iload_n 1, 1) := by decide +kernel
theorem dX9_kindAt_43 : decode cX9_kindAt 43 = .ok (.iload_n 2, 1) := by decide +kernel
theorem dX9_kindAt_44 : decode cX9_kindAt 44 = .ok (.invokevirtual 143, 3) := by decide +kernel
theorem dX9_kindAt_47 : decode cX9_kindAt 47 = .ok (.ifCond .eq 7, 3) := by decide +kernel
theorem dX9_kindAt_50 : decode cX9_kindAt 50 = .ok (.iconst 3, 1) := by decide +kernel
theorem dX9_kindAt_51 : decode cX9_kindAt 51 = .ok (.goto 4, 3) := by decide +kernel
theorem dX9_kindAt_54 : decode cX9_kindAt 54 = .ok (.iconst 1, 1) := by decide +kernel
theorem dX9_kindAt_55 : decode cX9_kindAt 55 = .ok (.ireturn, 1) := by decide +kernel
theorem dX9_kindAt_56 : decode cX9_kindAt 56 = .ok (.iload_n 3, 1) := by decide +kernel
theorem dX9_kindAt_57 : decode cX9_kindAt 57 = .ok (.ifCond .ne 13, 3) := by decide +kernel
theorem dX9_kindAt_60 : decode cX9_kindAt 60 = .ok (.iload 4, 2) := by decide +kernel
theorem dX9_kindAt_62 : decode cX9_kindAt 62 = .ok (.iconst 3, 1) := by decide +kernel
theorem dX9_kindAt_63 : decode cX9_kindAt 63 = .ok (.if_icmp .lt 7, 3) := by decide +kernel
theorem dX9_kindAt_66 : decode cX9_kindAt 66 = .ok (.iconst 2, 1) := by decide +kernel
theorem dX9_kindAt_67 : decode cX9_kindAt 67 = .ok (.goto 4, 3) := by decide +kernel
theorem dX9_kindAt_70 : decode cX9_kindAt 70 = .ok (.iconst 3, 1) := by decide +kernel
theorem dX9_kindAt_71 : decode cX9_kindAt 71 = .ok (.ireturn, 1) := by decide +kernel
theorem k_X9_kindAt : cardV yX9_kindAt (Cond.code yX9_kindAt cX9_kindAt 5 (some .int)) 4 := ⟨⟨qi_X9_kindAt, qv_X9_kindAt⟩, qc_X9_kindAt, qn_X9, by decide +kernel, by decide +kernel, by decide +kernel⟩
set_option maxHeartbeats 4000000 in
set_option maxRecDepth 100000 in
theorem c_X9_kindAt (l : Launch) (D : va_G) (g : Nat → ClassId) (q_this q_houses q_halls q_posts q_blocks q_kinds q_houses_cells q_houses_froms q_houses_tos q_houses_rings q_houses_pranks : Nat) (p1 p2 p3 p4 : Int32) (f_hour : Int32) (f_day : Int32) (f_prankHouse : Int32) (f_bells : Int32) (f_echoes : Int32) (f_bellPranks : Int32) (f_houses_size : Int32) (a_houses_froms : Nat → Int32) (a_houses_tos : Nat → Int32) (o : Int32) (h : F_X9_kindAt p1 p2 p3 p4 a_houses_froms a_houses_tos = some o) : MR l yX9_kindAt (Cond.code yX9_kindAt cX9_kindAt 5 (some .int)) { frames := 2, cells := 0, slots := 0, locals := 45 } D g [.ref q_this, .int p1, .int p2, .int p3, .int p4] [(q_this, .inr (9, [.ref q_houses, .ref q_halls, .ref q_posts, .ref q_blocks, .ref q_kinds, .int f_hour, .int f_day, .int f_prankHouse, .int f_bells, .int f_echoes, .int f_bellPranks])), (q_houses, .inr (3, [.int f_houses_size, .ref q_houses_cells, .ref q_houses_froms, .ref q_houses_tos, .ref q_houses_rings, .ref q_houses_pranks])), (q_houses_froms, .inl (g 0, 10, .inl a_houses_froms)), (q_houses_tos, .inl (g 0, 10, .inl a_houses_tos))] (some (.int o)) := by
  refine z_rd_start (by decide) (Nat.le_of_ble_eq_true rfl) ?_
  intro p e s m args below meth c Q X hr hQ
  refine z_lv (lv' := [(0, .ref q_this), (1, .int p1), (2, .int p2), (3, .int p3), (4, .int p4)]) rfl ?_
  have H56 : J_X9_kindAt_56 p1 p2 p3 p4 a_houses_froms a_houses_tos = some o → Z p l e { frames := 2, cells := 0, slots := 0, locals := 45 } s m args below meth c Q 5 0 0 (IR D [(q_this, .inr (9, [.ref q_houses, .ref q_halls, .ref q_posts, .ref q_blocks, .ref q_kinds, .int f_hour, .int f_day, .int f_prankHouse, .int f_bells, .int f_echoes, .int f_bellPranks])), (q_houses, .inr (3, [.int f_houses_size, .ref q_houses_cells, .ref q_houses_froms, .ref q_houses_tos, .ref q_houses_rings, .ref q_houses_pranks])), (q_houses_froms, .inl (g 0, 10, .inl a_houses_froms)), (q_houses_tos, .inl (g 0, 10, .inl a_houses_tos))] s) 56 [(3, .int p3), (4, .int p4)] [] := by
    intro  h
    refine z_iload_n X 0 dX9_kindAt_56 rfl rfl ?_
    refine z_if_ne X 70 dX9_kindAt_57 (by decide) h (fun _ h => ?_) (fun _ h => ?_)
    · refine z_iload X 1 dX9_kindAt_60 rfl ?_
      refine z_iconst X (3 : Int32) dX9_kindAt_62 (by decide) ?_
      refine z_icmp_lt X 70 dX9_kindAt_63 (by decide) h (fun _ h => ?_) (fun _ h => ?_)
      · refine z_iconst X (3 : Int32) dX9_kindAt_70 (by decide) ?_
        exact z_iretR X hQ hr dX9_kindAt_71 h
      · refine z_iconst X (2 : Int32) dX9_kindAt_66 (by decide) ?_
        refine z_goto X 71 dX9_kindAt_67 (by decide) ?_
        exact z_iretR X hQ hr dX9_kindAt_71 h
    · refine z_iconst X (3 : Int32) dX9_kindAt_70 (by decide) ?_
      exact z_iretR X hQ hr dX9_kindAt_71 h
  have H28 : J_X9_kindAt_28 p1 p2 p3 p4 a_houses_froms a_houses_tos = some o → Z p l e { frames := 2, cells := 0, slots := 0, locals := 45 } s m args below meth c Q 5 0 0 (IR D [(q_this, .inr (9, [.ref q_houses, .ref q_halls, .ref q_posts, .ref q_blocks, .ref q_kinds, .int f_hour, .int f_day, .int f_prankHouse, .int f_bells, .int f_echoes, .int f_bellPranks])), (q_houses, .inr (3, [.int f_houses_size, .ref q_houses_cells, .ref q_houses_froms, .ref q_houses_tos, .ref q_houses_rings, .ref q_houses_pranks])), (q_houses_froms, .inl (g 0, 10, .inl a_houses_froms)), (q_houses_tos, .inl (g 0, 10, .inl a_houses_tos))] s) 28 [(0, .ref q_this), (1, .int p1), (2, .int p2), (3, .int p3), (4, .int p4)] [] := by
    intro  h
    refine z_iload X 4 dX9_kindAt_28 rfl ?_
    refine z_if_ne X 56 dX9_kindAt_30 (by decide) h (fun _ h => ?_) (fun _ h => ?_)
    · refine z_iload_n X 3 dX9_kindAt_33 rfl rfl ?_
      refine z_iconst X (2 : Int32) dX9_kindAt_34 (by decide) ?_
      refine z_icmp_ne X 56 dX9_kindAt_35 (by decide) h (fun _ h => ?_) (fun _ h => ?_)
      · refine z_aload_n X 0 dX9_kindAt_38 rfl rfl ?_
        refine z_get (q0 := 0) (k := 0) (ci := 9) X IR_P iw_X9 rfl qf_X9_X9_houses (by decide) dX9_kindAt_39 rfl rfl ?_
        refine z_iload_n X 1 dX9_kindAt_42 rfl rfl ?_
        refine z_iload_n X 2 dX9_kindAt_43 rfl rfl ?_
        obtain ⟨o3, e4, h⟩ := bnd_p h
        refine z_rdV (rest := []) (q0 := 1) (ci := 3) X IR_P k_X2_isAsleep (c_X2_isAsleep l D g q_houses q_houses_cells q_houses_froms q_houses_tos q_houses_rings q_houses_pranks p1 p2 f_houses_size a_houses_froms a_houses_tos o3 e4) ql_X9_X2_isAsleep dX9_kindAt_44 [1, 2, 3] rfl rfl rfl rfl rfl rfl ⟨Nat.le_of_ble_eq_true rfl, Nat.le_of_ble_eq_true rfl, rfl, rfl, Nat.le_of_ble_eq_true rfl, Nat.le_of_ble_eq_true rfl⟩ (Nat.le_of_ble_eq_true rfl) ?_
        refine z_if_eq X 54 dX9_kindAt_47 (by decide) h (fun _ h => ?_) (fun _ h => ?_)
        · refine z_iconst X (1 : Int32) dX9_kindAt_54 (by decide) ?_
          exact z_iretR X hQ hr dX9_kindAt_55 h
        · refine z_iconst X (3 : Int32) dX9_kindAt_50 (by decide) ?_
          refine z_goto X 55 dX9_kindAt_51 (by decide) ?_
          exact z_iretR X hQ hr dX9_kindAt_55 h
      · refine z_sub (lv' := [(3, .int p3), (4, .int p4)]) [3, 4] rfl ?_
        exact H56  h
    · refine z_sub (lv' := [(3, .int p3), (4, .int p4)]) [3, 4] rfl ?_
      exact H56  h
  refine z_iload X 4 dX9_kindAt_0 rfl ?_
  refine z_if_ne X 28 dX9_kindAt_2 (by decide) h (fun _ h => ?_) (fun _ h => ?_)
  · refine z_iload_n X 3 dX9_kindAt_5 rfl rfl ?_
    refine z_iconst X (1 : Int32) dX9_kindAt_6 (by decide) ?_
    refine z_icmp_ne X 28 dX9_kindAt_7 (by decide) h (fun _ h => ?_) (fun _ h => ?_)
    · refine z_aload_n X 0 dX9_kindAt_10 rfl rfl ?_
      refine z_get (q0 := 0) (k := 0) (ci := 9) X IR_P iw_X9 rfl qf_X9_X9_houses (by decide) dX9_kindAt_11 rfl rfl ?_
      refine z_iload_n X 1 dX9_kindAt_14 rfl rfl ?_
      refine z_iload_n X 2 dX9_kindAt_15 rfl rfl ?_
      obtain ⟨o1, e2, h⟩ := bnd_p h
      refine z_rdV (rest := []) (q0 := 1) (ci := 3) X IR_P k_X2_isAsleep (c_X2_isAsleep l D g q_houses q_houses_cells q_houses_froms q_houses_tos q_houses_rings q_houses_pranks p1 p2 f_houses_size a_houses_froms a_houses_tos o1 e2) ql_X9_X2_isAsleep dX9_kindAt_16 [1, 2, 3] rfl rfl rfl rfl rfl rfl ⟨Nat.le_of_ble_eq_true rfl, Nat.le_of_ble_eq_true rfl, rfl, rfl, Nat.le_of_ble_eq_true rfl, Nat.le_of_ble_eq_true rfl⟩ (Nat.le_of_ble_eq_true rfl) ?_
      refine z_if_eq X 26 dX9_kindAt_19 (by decide) h (fun _ h => ?_) (fun _ h => ?_)
      · refine z_iconst X (0 : Int32) dX9_kindAt_26 (by decide) ?_
        exact z_iretR X hQ hr dX9_kindAt_27 h
      · refine z_iconst X (3 : Int32) dX9_kindAt_22 (by decide) ?_
        refine z_goto X 27 dX9_kindAt_23 (by decide) ?_
        exact z_iretR X hQ hr dX9_kindAt_27 h
    · exact H28  h
  · exact H28  h

def F_X2_countRing (p1 : Int32) (p2 : Int32) (a_rings : Nat → Int32) (a_pranks : Nat → Int32) : Option ((Nat → Int32) × (Nat → Int32)) :=
  bnd (F_X2_ringsAt p1 a_rings) (fun o1 => bnd (F_X7_put 10 p1 (o1 + (1 : Int32)) a_rings) (fun o3 => brn (p2 = 0) (some (o3, a_pranks)) (bnd (F_X2_pranksAt p1 a_pranks) (fun o5 => bnd (F_X7_put 10 p1 (o5 + (1 : Int32)) a_pranks) (fun o7 => some (o3, o7))))))
theorem dX2_countRing_0 : decode cX2_countRing 0 = .ok (.aload_n 0, 1) := by decide +kernel
theorem dX2_countRing_1 : decode cX2_countRing 1 = .ok (.getfield 21, 3) := by decide +kernel
theorem dX2_countRing_4 : decode cX2_countRing 4 = .ok (.iload_n 1, 1) := by decide +kernel
theorem dX2_countRing_5 : decode cX2_countRing 5 = .ok (.aload_n 0, 1) := by decide +kernel
theorem dX2_countRing_6 : decode cX2_countRing 6 = .ok (.iload_n 1, 1) := by decide +kernel
theorem dX2_countRing_7 : decode cX2_countRing 7 = .ok (.invokevirtual 49, 3) := by decide +kernel
theorem dX2_countRing_10 : decode cX2_countRing 10 = .ok (.iconst 1, 1) := by decide +kernel
theorem dX2_countRing_11 : decode cX2_countRing 11 = .ok (.iadd, 1) := by decide +kernel
theorem dX2_countRing_12 : decode cX2_countRing 12 = .ok (.invokestatic 41, 3) := by decide +kernel
theorem dX2_countRing_15 : decode cX2_countRing 15 = .ok (.iload_n 2, 1) := by decide +kernel
theorem dX2_countRing_16 : decode cX2_countRing 16 = .ok (.ifCond .eq 18, 3) := by decide +kernel
theorem dX2_countRing_19 : decode cX2_countRing 19 = .ok (.aload_n 0, 1) := by decide +kernel
theorem dX2_countRing_20 : decode cX2_countRing 20 = .ok (.getfield 24, 3) := by decide +kernel
theorem dX2_countRing_23 : decode cX2_countRing 23 = .ok (.iload_n 1, 1) := by decide +kernel
theorem dX2_countRing_24 : decode cX2_countRing 24 = .ok (.aload_n 0, 1) := by decide +kernel
theorem dX2_countRing_25 : decode cX2_countRing 25 = .ok (.iload_n 1, 1) := by decide +kernel
theorem dX2_countRing_26 : decode cX2_countRing 26 = .ok (.invokevirtual 53, 3) := by decide +kernel
theorem dX2_countRing_29 : decode cX2_countRing 29 = .ok (.iconst 1, 1) := by decide +kernel
theorem dX2_countRing_30 : decode cX2_countRing 30 = .ok (.iadd, 1) := by decide +kernel
theorem dX2_countRing_31 : decode cX2_countRing 31 = .ok (.invokestatic 41, 3) := by decide +kernel
theorem dX2_countRing_34 : decode cX2_countRing 34 = .ok (.return_, 1) := by decide +kernel
theorem k_X2_countRing : cardV yX2_countRing (Cond.code yX2_countRing cX2_countRing 3 none) 2 := ⟨⟨qi_X2_countRing, qv_X2_countRing⟩, qc_X2_countRing, qn_X2, by decide +kernel, by decide +kernel, by decide +kernel⟩
set_option maxHeartbeats 4000000 in
set_option maxRecDepth 100000 in
theorem c_X2_countRing (l : Launch) (D : va_G) (g : Nat → ClassId) (q_this q_cells q_froms q_tos q_rings q_pranks : Nat) (p1 p2 : Int32) (f_size : Int32) (a_rings : Nat → Int32) (a_pranks : Nat → Int32) (o : (Nat → Int32) × (Nat → Int32)) (h : F_X2_countRing p1 p2 a_rings a_pranks = some o) : MW l yX2_countRing (Cond.code yX2_countRing cX2_countRing 3 none) { frames := 2, cells := 0, slots := 0, locals := 42 } D g [.ref q_this, .int p1, .int p2] [(q_this, .inr (3, [.int f_size, .ref q_cells, .ref q_froms, .ref q_tos, .ref q_rings, .ref q_pranks])), (q_rings, .inl (g 0, 10, .inl a_rings)), (q_pranks, .inl (g 0, 10, .inl a_pranks))] none [(q_this, .inr (3, [.int f_size, .ref q_cells, .ref q_froms, .ref q_tos, .ref q_rings, .ref q_pranks])), (q_rings, .inl (g 0, 10, .inl o.1)), (q_pranks, .inl (g 0, 10, .inl o.2))] := by
  refine z_wr_start (by decide) (Nat.le_of_ble_eq_true rfl) ?_
  intro p e s m args below meth c Q A X hr hQ hA
  refine z_lv (lv' := [(0, .ref q_this), (1, .int p1), (2, .int p2)]) rfl ?_
  refine z_aload_n X 0 dX2_countRing_0 rfl rfl ?_
  refine z_get (q0 := 0) (k := 4) (ci := 3) X IW_P iw_X2 rfl qf_X2_X2_rings (by decide) dX2_countRing_1 rfl rfl ?_
  refine z_iload_n X 1 dX2_countRing_4 rfl rfl ?_
  refine z_aload_n X 0 dX2_countRing_5 rfl rfl ?_
  refine z_iload_n X 1 dX2_countRing_6 rfl rfl ?_
  obtain ⟨o1, e2, h⟩ := bnd_p h
  refine z_rdV (rest := [.int p1, .ref q_rings]) (q0 := 0) (ci := 3) X IW_P k_X2_ringsAt (c_X2_ringsAt l D g q_this q_cells q_froms q_tos q_rings q_pranks p1 f_size a_rings o1 e2) ql_X2_X2_ringsAt dX2_countRing_7 [0, 1] rfl rfl rfl rfl rfl rfl ⟨Nat.le_of_ble_eq_true rfl, Nat.le_of_ble_eq_true rfl, rfl, rfl, Nat.le_of_ble_eq_true rfl, Nat.le_of_ble_eq_true rfl⟩ (Nat.le_of_ble_eq_true rfl) ?_
  refine z_iconst X (1 : Int32) dX2_countRing_10 (by decide) ?_
  refine z_iadd X dX2_countRing_11 ?_
  obtain ⟨o3, e4, h⟩ := bnd_p h
  refine z_wrS (rest := []) (ws' := [(q_this, .inr (3, [.int f_size, .ref q_cells, .ref q_froms, .ref q_tos, .ref q_rings, .ref q_pranks])), (q_rings, .inl (g 0, 10, .inl o3)), (q_pranks, .inl (g 0, 10, .inl a_pranks))]) (wr := [(q_this, .inr (3, [.int f_size, .ref q_cells, .ref q_froms, .ref q_tos, .ref q_rings, .ref q_pranks])), (q_pranks, .inl (g 0, 10, .inl a_pranks))]) (as := [q_this, q_rings, q_pranks]) X k_X7_put (c_X7_put l D g q_rings 10 p1 (o1 + (1 : Int32)) a_rings o3 e4) ql_X2_X7_put dX2_countRing_12 [1] [0, 2] ⟨rfl, rfl, rfl, rfl, rfl, rfl, rfl, rfl⟩ rfl rfl ⟨Nat.le_of_ble_eq_true rfl, Nat.le_of_ble_eq_true rfl, rfl, rfl, Nat.le_of_ble_eq_true rfl, Nat.le_of_ble_eq_true rfl⟩ (Nat.le_of_ble_eq_true rfl) ?_
  refine z_iload_n X 2 dX2_countRing_15 rfl rfl ?_
  refine z_if_eq X 34 dX2_countRing_16 (by decide) h (fun _ h => ?_) (fun _ h => ?_)
  · cases h
    exact z_vretW X hQ hA hr dX2_countRing_34
  · refine z_aload_n X 0 dX2_countRing_19 rfl rfl ?_
    refine z_get (q0 := 0) (k := 5) (ci := 3) X IW_P iw_X2 rfl qf_X2_X2_pranks (by decide) dX2_countRing_20 rfl rfl ?_
    refine z_iload_n X 1 dX2_countRing_23 rfl rfl ?_
    refine z_aload_n X 0 dX2_countRing_24 rfl rfl ?_
    refine z_iload_n X 1 dX2_countRing_25 rfl rfl ?_
    obtain ⟨o5, e6, h⟩ := bnd_p h
    refine z_rdV (rest := [.int p1, .ref q_pranks]) (q0 := 0) (ci := 3) X IW_P k_X2_pranksAt (c_X2_pranksAt l D g q_this q_cells q_froms q_tos q_rings q_pranks p1 f_size a_pranks o5 e6) ql_X2_X2_pranksAt dX2_countRing_26 [0, 2] rfl rfl rfl rfl rfl rfl ⟨Nat.le_of_ble_eq_true rfl, Nat.le_of_ble_eq_true rfl, rfl, rfl, Nat.le_of_ble_eq_true rfl, Nat.le_of_ble_eq_true rfl⟩ (Nat.le_of_ble_eq_true rfl) ?_
    refine z_iconst X (1 : Int32) dX2_countRing_29 (by decide) ?_
    refine z_iadd X dX2_countRing_30 ?_
    obtain ⟨o7, e8, h⟩ := bnd_p h
    refine z_wrS (rest := []) (ws' := [(q_this, .inr (3, [.int f_size, .ref q_cells, .ref q_froms, .ref q_tos, .ref q_rings, .ref q_pranks])), (q_rings, .inl (g 0, 10, .inl o3)), (q_pranks, .inl (g 0, 10, .inl o7))]) (wr := [(q_this, .inr (3, [.int f_size, .ref q_cells, .ref q_froms, .ref q_tos, .ref q_rings, .ref q_pranks])), (q_rings, .inl (g 0, 10, .inl o3))]) (as := [q_this, q_rings, q_pranks]) X k_X7_put (c_X7_put l D g q_pranks 10 p1 (o5 + (1 : Int32)) a_pranks o7 e8) ql_X2_X7_put dX2_countRing_31 [2] [0, 1] ⟨rfl, rfl, rfl, rfl, rfl, rfl, rfl, rfl⟩ rfl rfl ⟨Nat.le_of_ble_eq_true rfl, Nat.le_of_ble_eq_true rfl, rfl, rfl, Nat.le_of_ble_eq_true rfl, Nat.le_of_ble_eq_true rfl⟩ (Nat.le_of_ble_eq_true rfl) ?_
    cases h
    exact z_vretW X hQ hA hr dX2_countRing_34

def J_X9_hearAt_29 (p1 : Int32) (p2 : Int32) (p3 : Int32) (f_hour : Int32) (a_houses_froms : Nat → Int32) (a_houses_tos : Nat → Int32) (t0 : Int32) (t1 : Int32) (x4 : Int32) (a_houses_rings : Nat → Int32) (a_houses_pranks : Nat → Int32) (a_kinds : Nat → Int32) : Option (Int32 × (Nat → Int32) × (Nat → Int32) × (Nat → Int32)) :=
  bnd (F_X2_countRing t1 t0 a_houses_rings a_houses_pranks) (fun o3 => bnd (F_X7_at 4 x4 a_kinds) (fun o5 => bnd (F_X7_put 4 x4 (o5 + (1 : Int32)) a_kinds) (fun o7 => some (x4, o3.1, o3.2, o7))))

def F_X9_hearAt (p1 : Int32) (p2 : Int32) (p3 : Int32) (f_hour : Int32) (a_houses_froms : Nat → Int32) (a_houses_tos : Nat → Int32) (a_houses_rings : Nat → Int32) (a_houses_pranks : Nat → Int32) (a_kinds : Nat → Int32) : Option (Int32 × (Nat → Int32) × (Nat → Int32) × (Nat → Int32)) :=
  bnd (F_X9_kindAt p1 f_hour p2 p3 a_houses_froms a_houses_tos) (fun o1 => brn (o1 = (3 : Int32)) (J_X9_hearAt_29 p1 p2 p3 f_hour a_houses_froms a_houses_tos (1 : Int32) p1 o1 a_houses_rings a_houses_pranks a_kinds) (J_X9_hearAt_29 p1 p2 p3 f_hour a_houses_froms a_houses_tos (0 : Int32) p1 o1 a_houses_rings a_houses_pranks a_kinds))
theorem dX9_hearAt_0 : decode cX9_hearAt 0 = .ok (.aload_n 0, 1) := by decide +kernel
theorem dX9_hearAt_1 : decode cX9_hearAt 1 = .ok (.iload_n 1, 1) := by decide +kernel
theorem dX9_hearAt_2 : decode cX9_hearAt 2 = .ok (.aload_n 0, 1) := by decide +kernel
theorem dX9_hearAt_3 : decode cX9_hearAt 3 = .ok (.getfield 39, 3) := by decide +kernel
theorem dX9_hearAt_6 : decode cX9_hearAt 6 = .ok (.iload_n 2, 1) := by decide +kernel
theorem dX9_hearAt_7 : decode cX9_hearAt 7 = .ok (.iload_n 3, 1) := by decide +kernel
theorem dX9_hearAt_8 : decode cX9_hearAt 8 = .ok (.invokevirtual 178, 3) := by decide +kernel
theorem dX9_hearAt_11 : decode cX9_hearAt 11 = .ok (.istore 4, 2) := by decide +kernel
theorem dX9_hearAt_13 : decode cX9_hearAt 13 = .ok (.aload_n 0, 1) := by decide +kernel
theorem dX9_hearAt_14 : decode cX9_hearAt 14 = .ok (.getfield 12, 3) := by decide +kernel
theorem dX9_hearAt_17 : decode cX9_hearAt 17 = .ok (.iload_n 1, 1) := by decide +kernel
theorem dX9_hearAt_18 : decode cX9_hearAt 18 = .ok (.iload 4, 2) := by decide +kernel
theorem dX9_hearAt_20 : decode cX9_hearAt 20 = .ok (.iconst 3, 1) := by decide +kernel
theorem dX9_hearAt_21 : decode cX9_hearAt 21 = .ok (.if_icmp .ne 7, 3) := by decide +kernel
theorem dX9_hearAt_24 : decode cX9_hearAt 24 = .ok (.iconst 1, 1) := by decide +kernel
theorem dX9_hearAt_25 : decode cX9_hearAt 25 = .ok (.goto 4, 3) := by decide +kernel
theorem dX9_hearAt_28 : decode cX9_hearAt 28 = .ok (.iconst 0, 1) := by decide +kernel
theorem dX9_hearAt_29 : decode cX9_hearAt 29 = .ok (.invokevirtual 182, 3) := by decide +kernel
theorem dX9_hearAt_32 : decode cX9_hearAt 32 = .ok (.aload_n 0, 1) := by decide +kernel
theorem dX9_hearAt_33 : decode cX9_hearAt 33 = .ok (.getfield 36, 3) := by decide +kernel
theorem dX9_hearAt_36 : decode cX9_hearAt 36 = .ok (.iload 4, 2) := by decide +kernel
theorem dX9_hearAt_38 : decode cX9_hearAt 38 = .ok (.aload_n 0, 1) := by decide +kernel
theorem dX9_hearAt_39 : decode cX9_hearAt 39 = .ok (.getfield 36, 3) := by decide +kernel
theorem dX9_hearAt_42 : decode cX9_hearAt 42 = .ok (.iload 4, 2) := by decide +kernel
theorem dX9_hearAt_44 : decode cX9_hearAt 44 = .ok (.invokestatic 131, 3) := by decide +kernel
theorem dX9_hearAt_47 : decode cX9_hearAt 47 = .ok (.iconst 1, 1) := by decide +kernel
theorem dX9_hearAt_48 : decode cX9_hearAt 48 = .ok (.iadd, 1) := by decide +kernel
theorem dX9_hearAt_49 : decode cX9_hearAt 49 = .ok (.invokestatic 135, 3) := by decide +kernel
theorem dX9_hearAt_52 : decode cX9_hearAt 52 = .ok (.iload 4, 2) := by decide +kernel
theorem dX9_hearAt_54 : decode cX9_hearAt 54 = .ok (.ireturn, 1) := by decide +kernel
theorem k_X9_hearAt : cardV yX9_hearAt (Cond.code yX9_hearAt cX9_hearAt 5 (some .int)) 3 := ⟨⟨qi_X9_hearAt, qv_X9_hearAt⟩, qc_X9_hearAt, qn_X9, by decide +kernel, by decide +kernel, by decide +kernel⟩
set_option maxHeartbeats 4000000 in
set_option maxRecDepth 100000 in
theorem c_X9_hearAt (l : Launch) (D : va_G) (g : Nat → ClassId) (q_this q_houses q_halls q_posts q_blocks q_kinds q_houses_cells q_houses_froms q_houses_tos q_houses_rings q_houses_pranks : Nat) (p1 p2 p3 : Int32) (f_hour : Int32) (f_day : Int32) (f_prankHouse : Int32) (f_bells : Int32) (f_echoes : Int32) (f_bellPranks : Int32) (f_houses_size : Int32) (a_houses_froms : Nat → Int32) (a_houses_tos : Nat → Int32) (a_houses_rings : Nat → Int32) (a_houses_pranks : Nat → Int32) (a_kinds : Nat → Int32) (o : Int32 × (Nat → Int32) × (Nat → Int32) × (Nat → Int32)) (h : F_X9_hearAt p1 p2 p3 f_hour a_houses_froms a_houses_tos a_houses_rings a_houses_pranks a_kinds = some o) : MW l yX9_hearAt (Cond.code yX9_hearAt cX9_hearAt 5 (some .int)) { frames := 3, cells := 0, slots := 0, locals := 69 } D g [.ref q_this, .int p1, .int p2, .int p3] [(q_this, .inr (9, [.ref q_houses, .ref q_halls, .ref q_posts, .ref q_blocks, .ref q_kinds, .int f_hour, .int f_day, .int f_prankHouse, .int f_bells, .int f_echoes, .int f_bellPranks])), (q_houses, .inr (3, [.int f_houses_size, .ref q_houses_cells, .ref q_houses_froms, .ref q_houses_tos, .ref q_houses_rings, .ref q_houses_pranks])), (q_houses_froms, .inl (g 0, 10, .inl a_houses_froms)), (q_houses_tos, .inl (g 0, 10, .inl a_houses_tos)), (q_houses_rings, .inl (g 0, 10, .inl a_houses_rings)), (q_houses_pranks, .inl (g 0, 10, .inl a_houses_pranks)), (q_kinds, .inl (g 0, 4, .inl a_kinds))] (some (.int o.1)) [(q_this, .inr (9, [.ref q_houses, .ref q_halls, .ref q_posts, .ref q_blocks, .ref q_kinds, .int f_hour, .int f_day, .int f_prankHouse, .int f_bells, .int f_echoes, .int f_bellPranks])), (q_houses, .inr (3, [.int f_houses_size, .ref q_houses_cells, .ref q_houses_froms, .ref q_houses_tos, .ref q_houses_rings, .ref q_houses_pranks])), (q_houses_froms, .inl (g 0, 10, .inl a_houses_froms)), (q_houses_tos, .inl (g 0, 10, .inl a_houses_tos)), (q_houses_rings, .inl (g 0, 10, .inl o.2.1)), (q_houses_pranks, .inl (g 0, 10, .inl o.2.2.1)), (q_kinds, .inl (g 0, 4, .inl o.2.2.2))] := by
  refine z_wr_start (by decide) (Nat.le_of_ble_eq_true rfl) ?_
  intro p e s m args below meth c Q A X hr hQ hA
  refine z_lv (lv' := [(0, .ref q_this), (1, .int p1), (2, .int p2), (3, .int p3)]) rfl ?_
  have H29 : ∀ (t0 : Int32) (t1 : Int32) (x4 : Int32) (a_houses_rings : Nat → Int32) (a_houses_pranks : Nat → Int32) (a_kinds : Nat → Int32), J_X9_hearAt_29 p1 p2 p3 f_hour a_houses_froms a_houses_tos t0 t1 x4 a_houses_rings a_houses_pranks a_kinds = some o → Z p l e { frames := 3, cells := 0, slots := 0, locals := 69 } s m args below meth c Q 5 0 0 (IW D A s [(q_this, .inr (9, [.ref q_houses, .ref q_halls, .ref q_posts, .ref q_blocks, .ref q_kinds, .int f_hour, .int f_day, .int f_prankHouse, .int f_bells, .int f_echoes, .int f_bellPranks])), (q_houses, .inr (3, [.int f_houses_size, .ref q_houses_cells, .ref q_houses_froms, .ref q_houses_tos, .ref q_houses_rings, .ref q_houses_pranks])), (q_houses_froms, .inl (g 0, 10, .inl a_houses_froms)), (q_houses_tos, .inl (g 0, 10, .inl a_houses_tos)), (q_houses_rings, .inl (g 0, 10, .inl a_houses_rings)), (q_houses_pranks, .inl (g 0, 10, .inl a_houses_pranks)), (q_kinds, .inl (g 0, 4, .inl a_kinds))]) 29 [(0, .ref q_this), (4, .int x4)] [.int t0, .int t1, .ref q_houses] := by
    intro t0 t1 x4 a_houses_rings a_houses_pranks a_kinds h
    obtain ⟨o3, e4, h⟩ := bnd_p h
    refine z_wrV (rest := []) (q0 := 1) (ci := 3) (ws' := [(q_this, .inr (9, [.ref q_houses, .ref q_halls, .ref q_posts, .ref q_blocks, .ref q_kinds, .int f_hour, .int f_day, .int f_prankHouse, .int f_bells, .int f_echoes, .int f_bellPranks])), (q_houses, .inr (3, [.int f_houses_size, .ref q_houses_cells, .ref q_houses_froms, .ref q_houses_tos, .ref q_houses_rings, .ref q_houses_pranks])), (q_houses_froms, .inl (g 0, 10, .inl a_houses_froms)), (q_houses_tos, .inl (g 0, 10, .inl a_houses_tos)), (q_houses_rings, .inl (g 0, 10, .inl o3.1)), (q_houses_pranks, .inl (g 0, 10, .inl o3.2)), (q_kinds, .inl (g 0, 4, .inl a_kinds))]) (wr := [(q_this, .inr (9, [.ref q_houses, .ref q_halls, .ref q_posts, .ref q_blocks, .ref q_kinds, .int f_hour, .int f_day, .int f_prankHouse, .int f_bells, .int f_echoes, .int f_bellPranks])), (q_houses_froms, .inl (g 0, 10, .inl a_houses_froms)), (q_houses_tos, .inl (g 0, 10, .inl a_houses_tos)), (q_kinds, .inl (g 0, 4, .inl a_kinds))]) (as := [q_this, q_houses, q_houses_froms, q_houses_tos, q_houses_rings, q_houses_pranks, q_kinds]) X k_X2_countRing (c_X2_countRing l D g q_houses q_houses_cells q_houses_froms q_houses_tos q_houses_rings q_houses_pranks t1 t0 f_houses_size a_houses_rings a_houses_pranks o3 e4) ql_X9_X2_countRing dX9_hearAt_29 [1, 4, 5] [0, 2, 3, 6] ⟨rfl, rfl, rfl, rfl, rfl, rfl, rfl, rfl⟩ rfl rfl rfl rfl rfl ⟨Nat.le_of_ble_eq_true rfl, Nat.le_of_ble_eq_true rfl, rfl, rfl, Nat.le_of_ble_eq_true rfl, Nat.le_of_ble_eq_true rfl⟩ (Nat.le_of_ble_eq_true rfl) ?_
    refine z_aload_n X 0 dX9_hearAt_32 rfl rfl ?_
    refine z_get (q0 := 0) (k := 4) (ci := 9) X IW_P iw_X9 rfl qf_X9_X9_kinds (by decide) dX9_hearAt_33 rfl rfl ?_
    refine z_iload X 1 dX9_hearAt_36 rfl ?_
    refine z_aload_n X 0 dX9_hearAt_38 rfl rfl ?_
    refine z_get (q0 := 0) (k := 4) (ci := 9) X IW_P iw_X9 rfl qf_X9_X9_kinds (by decide) dX9_hearAt_39 rfl rfl ?_
    refine z_iload X 1 dX9_hearAt_42 rfl ?_
    obtain ⟨o5, e6, h⟩ := bnd_p h
    refine z_rdS (rest := [.int x4, .ref q_kinds]) X IW_P k_X7_at (c_X7_at l D g q_kinds 4 x4 a_kinds o5 e6) ql_X9_X7_at dX9_hearAt_44 [6] rfl rfl rfl ⟨Nat.le_of_ble_eq_true rfl, Nat.le_of_ble_eq_true rfl, rfl, rfl, Nat.le_of_ble_eq_true rfl, Nat.le_of_ble_eq_true rfl⟩ (Nat.le_of_ble_eq_true rfl) ?_
    refine z_iconst X (1 : Int32) dX9_hearAt_47 (by decide) ?_
    refine z_iadd X dX9_hearAt_48 ?_
    obtain ⟨o7, e8, h⟩ := bnd_p h
    refine z_wrS (rest := []) (ws' := [(q_this, .inr (9, [.ref q_houses, .ref q_halls, .ref q_posts, .ref q_blocks, .ref q_kinds, .int f_hour, .int f_day, .int f_prankHouse, .int f_bells, .int f_echoes, .int f_bellPranks])), (q_houses, .inr (3, [.int f_houses_size, .ref q_houses_cells, .ref q_houses_froms, .ref q_houses_tos, .ref q_houses_rings, .ref q_houses_pranks])), (q_houses_froms, .inl (g 0, 10, .inl a_houses_froms)), (q_houses_tos, .inl (g 0, 10, .inl a_houses_tos)), (q_houses_rings, .inl (g 0, 10, .inl o3.1)), (q_houses_pranks, .inl (g 0, 10, .inl o3.2)), (q_kinds, .inl (g 0, 4, .inl o7))]) (wr := [(q_this, .inr (9, [.ref q_houses, .ref q_halls, .ref q_posts, .ref q_blocks, .ref q_kinds, .int f_hour, .int f_day, .int f_prankHouse, .int f_bells, .int f_echoes, .int f_bellPranks])), (q_houses, .inr (3, [.int f_houses_size, .ref q_houses_cells, .ref q_houses_froms, .ref q_houses_tos, .ref q_houses_rings, .ref q_houses_pranks])), (q_houses_froms, .inl (g 0, 10, .inl a_houses_froms)), (q_houses_tos, .inl (g 0, 10, .inl a_houses_tos)), (q_houses_rings, .inl (g 0, 10, .inl o3.1)), (q_houses_pranks, .inl (g 0, 10, .inl o3.2))]) (as := [q_this, q_houses, q_houses_froms, q_houses_tos, q_houses_rings, q_houses_pranks, q_kinds]) X k_X7_put (c_X7_put l D g q_kinds 4 x4 (o5 + (1 : Int32)) a_kinds o7 e8) ql_X9_X7_put dX9_hearAt_49 [6] [0, 1, 2, 3, 4, 5] ⟨rfl, rfl, rfl, rfl, rfl, rfl, rfl, rfl⟩ rfl rfl ⟨Nat.le_of_ble_eq_true rfl, Nat.le_of_ble_eq_true rfl, rfl, rfl, Nat.le_of_ble_eq_true rfl, Nat.le_of_ble_eq_true rfl⟩ (Nat.le_of_ble_eq_true rfl) ?_
    refine z_iload X 1 dX9_hearAt_52 rfl ?_
    cases h
    exact z_iretW X hQ hA hr dX9_hearAt_54
  refine z_aload_n X 0 dX9_hearAt_0 rfl rfl ?_
  refine z_iload_n X 1 dX9_hearAt_1 rfl rfl ?_
  refine z_aload_n X 0 dX9_hearAt_2 rfl rfl ?_
  refine z_get (q0 := 0) (k := 5) (ci := 9) X IW_P iw_X9 rfl qf_X9_X9_hour (by decide) dX9_hearAt_3 rfl rfl ?_
  refine z_iload_n X 2 dX9_hearAt_6 rfl rfl ?_
  refine z_iload_n X 3 dX9_hearAt_7 rfl rfl ?_
  obtain ⟨o1, e2, h⟩ := bnd_p h
  refine z_rdV (rest := []) (q0 := 0) (ci := 9) X IW_P k_X9_kindAt (c_X9_kindAt l D g q_this q_houses q_halls q_posts q_blocks q_kinds q_houses_cells q_houses_froms q_houses_tos q_houses_rings q_houses_pranks p1 f_hour p2 p3 f_hour f_day f_prankHouse f_bells f_echoes f_bellPranks f_houses_size a_houses_froms a_houses_tos o1 e2) ql_X9_X9_kindAt dX9_hearAt_8 [0, 1, 2, 3] rfl rfl rfl rfl rfl rfl ⟨Nat.le_of_ble_eq_true rfl, Nat.le_of_ble_eq_true rfl, rfl, rfl, Nat.le_of_ble_eq_true rfl, Nat.le_of_ble_eq_true rfl⟩ (Nat.le_of_ble_eq_true rfl) ?_
  refine z_istore X [(4, .int o1), (0, .ref q_this), (1, .int p1), (2, .int p2), (3, .int p3)] dX9_hearAt_11 (by decide) rfl ?_
  refine z_aload_n X 1 dX9_hearAt_13 rfl rfl ?_
  refine z_get (q0 := 0) (k := 0) (ci := 9) X IW_P iw_X9 rfl qf_X9_X9_houses (by decide) dX9_hearAt_14 rfl rfl ?_
  refine z_iload_n X 2 dX9_hearAt_17 rfl rfl ?_
  refine z_iload X 0 dX9_hearAt_18 rfl ?_
  refine z_iconst X (3 : Int32) dX9_hearAt_20 (by decide) ?_
  refine z_icmp_ne X 28 dX9_hearAt_21 (by decide) h (fun _ h => ?_) (fun _ h => ?_)
  · refine z_iconst X (1 : Int32) dX9_hearAt_24 (by decide) ?_
    refine z_goto X 29 dX9_hearAt_25 (by decide) ?_
    refine z_sub (lv' := [(0, .ref q_this), (4, .int o1)]) [1, 0] rfl ?_
    exact H29 (1 : Int32) p1 o1 a_houses_rings a_houses_pranks a_kinds h
  · refine z_iconst X (0 : Int32) dX9_hearAt_28 (by decide) ?_
    refine z_sub (lv' := [(0, .ref q_this), (4, .int o1)]) [1, 0] rfl ?_
    exact H29 (0 : Int32) p1 o1 a_houses_rings a_houses_pranks a_kinds h

def L_X5_forgetTold_2 (f_size : Int32) : Nat → Int32 → (Nat → Int32) → Option ((Nat → Int32))
  | 0, _, _ => none
  | _n + 1, x1, a_tolds =>
    brn (f_size ≤ x1) (some (a_tolds)) (bnd (F_X7_put 4 x1 ((-1) : Int32) a_tolds) (fun o1 => L_X5_forgetTold_2 f_size _n (x1 + 1) o1))

def F_X5_forgetTold (f_size : Int32) (a_tolds : Nat → Int32) : Option ((Nat → Int32)) :=
  L_X5_forgetTold_2 f_size 100 (0 : Int32) a_tolds
theorem dX5_forgetTold_0 : decode cX5_forgetTold 0 = .ok (.iconst 0, 1) := by decide +kernel
theorem dX5_forgetTold_1 : decode cX5_forgetTold 1 = .ok (.istore_n 1, 1) := by decide +kernel
theorem dX5_forgetTold_2 : decode cX5_forgetTold 2 = .ok (.iload_n 1, 1) := by decide +kernel
theorem dX5_forgetTold_3 : decode cX5_forgetTold 3 = .ok (.aload_n 0, 1) := by decide +kernel
theorem dX5_forgetTold_4 : decode cX5_forgetTold 4 = .ok (.getfield 18, 3) := by decide +kernel
theorem dX5_forgetTold_7 : decode cX5_forgetTold 7 = .ok (.if_icmp .ge 18, 3) := by decide +kernel
theorem dX5_forgetTold_10 : decode cX5_forgetTold 10 = .ok (.aload_n 0, 1) := by decide +kernel
theorem dX5_forgetTold_11 : decode cX5_forgetTold 11 = .ok (.getfield 15, 3) := by decide +kernel
theorem dX5_forgetTold_14 : decode cX5_forgetTold 14 = .ok (.iload_n 1, 1) := by decide +kernel
theorem dX5_forgetTold_15 : decode cX5_forgetTold 15 = .ok (.iconst (-1), 1) := by decide +kernel
theorem dX5_forgetTold_16 : decode cX5_forgetTold 16 = .ok (.invokestatic 32, 3) := by decide +kernel
theorem dX5_forgetTold_19 : decode cX5_forgetTold 19 = .ok (.iinc 1 1, 3) := by decide +kernel
theorem dX5_forgetTold_22 : decode cX5_forgetTold 22 = .ok (.goto (-20), 3) := by decide +kernel
theorem dX5_forgetTold_25 : decode cX5_forgetTold 25 = .ok (.return_, 1) := by decide +kernel
theorem k_X5_forgetTold : cardV yX5_forgetTold (Cond.code yX5_forgetTold cX5_forgetTold 2 none) 0 := ⟨⟨qi_X5_forgetTold, qv_X5_forgetTold⟩, qc_X5_forgetTold, qn_X5, by decide +kernel, by decide +kernel, by decide +kernel⟩
set_option maxHeartbeats 4000000 in
set_option maxRecDepth 100000 in
theorem c_X5_forgetTold (l : Launch) (D : va_G) (g : Nat → ClassId) (q_this q_cells q_tolds : Nat) (f_size : Int32) (a_tolds : Nat → Int32) (o : (Nat → Int32)) (h : F_X5_forgetTold f_size a_tolds = some o) : MW l yX5_forgetTold (Cond.code yX5_forgetTold cX5_forgetTold 2 none) { frames := 1, cells := 0, slots := 0, locals := 22 } D g [.ref q_this] [(q_this, .inr (6, [.int f_size, .ref q_cells, .ref q_tolds])), (q_tolds, .inl (g 0, 4, .inl a_tolds))] none [(q_this, .inr (6, [.int f_size, .ref q_cells, .ref q_tolds])), (q_tolds, .inl (g 0, 4, .inl o))] := by
  refine z_wr_start (by decide) (Nat.le_of_ble_eq_true rfl) ?_
  intro p e s m args below meth c Q A X hr hQ hA
  refine z_lv (lv' := [(0, .ref q_this)]) rfl ?_
  have H2 : ∀ (n : Nat) (x1 : Int32) (a_tolds : Nat → Int32), L_X5_forgetTold_2 f_size  n x1 a_tolds = some o → Z p l e { frames := 1, cells := 0, slots := 0, locals := 22 } s m args below meth c Q 2 0 0 (IW D A s [(q_this, .inr (6, [.int f_size, .ref q_cells, .ref q_tolds])), (q_tolds, .inl (g 0, 4, .inl a_tolds))]) 2 [(0, .ref q_this), (1, .int x1)] [] := by
    intro n
    induction n with
    | zero => intro x1 a_tolds h; cases h
    | succ n2 ih2 =>
      intro x1 a_tolds h
      refine z_iload_n X 1 dX5_forgetTold_2 rfl rfl ?_
      refine z_aload_n X 0 dX5_forgetTold_3 rfl rfl ?_
      refine z_get (q0 := 0) (k := 0) (ci := 6) X IW_P iw_X5 rfl qf_X5_X5_size (by decide) dX5_forgetTold_4 rfl rfl ?_
      refine z_icmp_ge X 25 dX5_forgetTold_7 (by decide) h (fun _ h => ?_) (fun _ h => ?_)
      · cases h
        exact z_vretW X hQ hA hr dX5_forgetTold_25
      · refine z_aload_n X 0 dX5_forgetTold_10 rfl rfl ?_
        refine z_get (q0 := 0) (k := 2) (ci := 6) X IW_P iw_X5 rfl qf_X5_X5_tolds (by decide) dX5_forgetTold_11 rfl rfl ?_
        refine z_iload_n X 1 dX5_forgetTold_14 rfl rfl ?_
        refine z_iconst X ((-1) : Int32) dX5_forgetTold_15 (by decide) ?_
        obtain ⟨o1, e2, h⟩ := bnd_p h
        refine z_wrS (rest := []) (ws' := [(q_this, .inr (6, [.int f_size, .ref q_cells, .ref q_tolds])), (q_tolds, .inl (g 0, 4, .inl o1))]) (wr := [(q_this, .inr (6, [.int f_size, .ref q_cells, .ref q_tolds]))]) (as := [q_this, q_tolds]) X k_X7_put (c_X7_put l D g q_tolds 4 x1 ((-1) : Int32) a_tolds o1 e2) ql_X5_X7_put dX5_forgetTold_16 [1] [0] ⟨rfl, rfl, rfl, rfl, rfl, rfl, rfl, rfl⟩ rfl rfl ⟨Nat.le_of_ble_eq_true rfl, Nat.le_of_ble_eq_true rfl, rfl, rfl, Nat.le_of_ble_eq_true rfl, Nat.le_of_ble_eq_true rfl⟩ (Nat.le_of_ble_eq_true rfl) ?_
        refine z_iinc X 1 [(1, .int (x1 + 1)), (0, .ref q_this)] dX5_forgetTold_19 rfl rfl (by decide) rfl ?_
        refine z_goto X 2 dX5_forgetTold_22 (by decide) ?_
        refine z_sub (lv' := [(0, .ref q_this), (1, .int (x1 + 1))]) [1, 0] rfl ?_
        exact ih2 (x1 + 1) o1 h
  refine z_iconst X (0 : Int32) dX5_forgetTold_0 (by decide) ?_
  refine z_istore_n X [(1, .int (0 : Int32)), (0, .ref q_this)] dX5_forgetTold_1 rfl (by decide) rfl ?_
  refine z_sub (lv' := [(0, .ref q_this), (1, .int (0 : Int32))]) [1, 0] rfl ?_
  exact H2 100 (0 : Int32) a_tolds h
