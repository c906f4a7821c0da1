def F_X2_size (f_size : Int32) : Option (Int32) :=
  some (f_size)
theorem dX2_size_0 : decode cX2_size 0 = .ok (.aload_n 0, 1) := by decide +kernel
theorem dX2_size_1 : decode cX2_size 1 = .ok (.getfield 27, 3) := by decide +kernel
theorem dX2_size_4 : decode cX2_size 4 = .ok (.ireturn, 1) := by decide +kernel
theorem k_X2_size : cardV yX2_size (Cond.code yX2_size cX2_size 1 (some .int)) 0 := ⟨⟨qi_X2_size, qv_X2_size⟩, qc_X2_size, qn_X2, by decide +kernel, by decide +kernel, by decide +kernel⟩
set_option maxHeartbeats 4000000 in
set_option maxRecDepth 100000 in
theorem c_X2_size (l : Launch) (D : va_G) (g : Nat → ClassId) (q_this q_cells q_froms q_tos q_rings q_pranks : Nat) (f_size : Int32) (o : Int32) (h : F_X2_size f_size = some o) : MR l yX2_size (Cond.code yX2_size cX2_size 1 (some .int)) { frames := 0, cells := 0, slots := 0, locals := 0 } D g [.ref q_this] [(q_this, .inr (3, [.int f_size, .ref q_cells, .ref q_froms, .ref q_tos, .ref q_rings, .ref q_pranks]))] (some (.int o)) := by
  refine z_rd_start (by decide) (Nat.le_of_ble_eq_true rfl) ?_
  intro p e s m args below meth c Q X hr hQ
  refine z_lv (lv' := [(0, .ref q_this)]) rfl ?_
  refine z_aload_n X 0 dX2_size_0 rfl rfl ?_
  refine z_get (q0 := 0) (k := 0) (ci := 3) X IR_P iw_X2 rfl qf_X2_X2_size (by decide) dX2_size_1 rfl rfl ?_
  exact z_iretR X hQ hr dX2_size_4 h

def F_X9_isEchoed (p1 : Int32) (p2 : Int32) (a_houses_cells : Nat → Int32) (f_halls_size : Int32) (a_halls_rows : Nat → Int32) (a_halls_firsts : Nat → Int32) (a_halls_lasts : Nat → Int32) : Option (Int32) :=
  bnd (F_X2_cellAt p1 a_houses_cells) (fun o1 => bnd (F_X1_around o1 f_halls_size a_halls_rows a_halls_firsts a_halls_lasts) (fun o3 => brn (p1 = p2) (some ((0 : Int32))) (brn (o3 = ((-1) : Int32)) (some ((0 : Int32))) (bnd (F_X2_cellAt p2 a_houses_cells) (fun o5 => bnd (F_X1_around o5 f_halls_size a_halls_rows a_halls_firsts a_halls_lasts) (fun o7 => brn (o3 = o7) (some ((1 : Int32))) (some ((0 : Int32)))))))))
theorem dX9_isEchoed_0 : decode cX9_isEchoed 0 = .ok (.aload_n 0, 1) := by decide +kernel
theorem dX9_isEchoed_1 : decode cX9_isEchoed 1 = .ok (.getfield 21, 3) := by decide +kernel
theorem dX9_isEchoed_4 : decode cX9_isEchoed 4 = .ok (.aload_n 0, 1) := by decide +kernel
theorem dX9_isEchoed_5 : decode cX9_isEchoed 5 = .ok (.getfield 12, 3) := by decide +kernel
theorem dX9_isEchoed_8 : decode cX9_isEchoed 8 = .ok (.iload_n 1, 1) := by decide +kernel
theorem dX9_isEchoed_9 : decode cX9_isEchoed 9 = .ok (.invokevirtual 147, 3) := by decide +kernel
theorem dX9_isEchoed_12 : decode cX9_isEchoed 12 = .ok (.invokevirtual 105, 3) := by decide +kernel
theorem dX9_isEchoed_15 : decode cX9_isEchoed 15 = .ok (.istore_n 3, 1) := by decide +kernel
theorem dX9_isEchoed_16 : decode cX9_isEchoed 16 = .ok (.iload_n 1, 1) := by decide +kernel
theorem dX9_isEchoed_17 : decode cX9_isEchoed 17 = .ok (.iload_n 2, 1) := by decide +kernel
theorem dX9_isEchoed_18 : decode cX9_isEchoed 18 = .ok (.if_icmp .eq 31, 3) := by decide +kernel
theorem dX9_isEchoed_21 : decode cX9_isEchoed 21 = .ok (.iload_n 3, 1) := by decide +kernel
theorem dX9_isEchoed_22 : decode cX9_isEchoed 22 = .ok (.iconst (-1), 1) := by decide +kernel
theorem dX9_isEchoed_23 : decode cX9_isEchoed 23 = .ok (.if_icmp .eq 26, 3) := by decide +kernel
theorem dX9_isEchoed_26 : decode cX9_isEchoed 26 = .ok (.iload_n 3, 1) := by decide +kernel
theorem dX9_isEchoed_27 : decode cX9_isEchoed 27 = .ok (.aload_n 0, 1) := by decide +kernel
theorem dX9_isEchoed_28 : decode cX9_isEchoed 28 = .ok (.getfield 21, 3) := by decide +kernel
theorem dX9_isEchoed_31 : decode cX9_isEchoed 31 = .ok (.aload_n 0, 1) := by decide +kernel
theorem dX9_isEchoed_32 : decode cX9_isEchoed 32 = .ok (.getfield 12, 3) := by decide +kernel
theorem dX9_isEchoed_35 : decode cX9_isEchoed 35 = .ok (.iload_n 2, 1) := by decide +kernel
theorem dX9_isEchoed_36 : decode cX9_isEchoed 36 = .ok (.invokevirtual 147, 3) := by decide +kernel
theorem dX9_isEchoed_39 : decode cX9_isEchoed 39 = .ok (.invokevirtual 105, 3) := by decide +kernel
theorem dX9_isEchoed_42 : decode cX9_isEchoed 42 = .ok (.if_icmp .ne 7, 3) := by decide +kernel
theorem dX9_isEchoed_45 : decode cX9_isEchoed 45 = .ok (.iconst 1, 1) := by decide +kernel
theorem dX9_isEchoed_46 : decode cX9_isEchoed 46 = .ok (.goto 4, 3) := by decide +kernel
theorem dX9_isEchoed_49 : decode cX9_isEchoed 49 = .ok (.iconst 0, 1) := by decide +kernel
theorem dX9_isEchoed_50 : decode cX9_isEchoed 50 = .ok (.ireturn, 1) := by decide +kernel
theorem k_X9_isEchoed : cardV yX9_isEchoed (Cond.code yX9_isEchoed cX9_isEchoed 4 (some .boolean)) 2 := ⟨⟨qi_X9_isEchoed, qv_X9_isEchoed⟩, qc_X9_isEchoed, qn_X9, by decide +kernel, by decide +kernel, by decide +kernel⟩
set_option maxHeartbeats 4000000 in
set_option maxRecDepth 100000 in
theorem c_X9_isEchoed (l : Launch) (D : va_G) (g : Nat → ClassId) (q_this q_houses q_halls q_posts q_blocks q_kinds q_houses_cells q_houses_froms q_houses_tos q_houses_rings q_houses_pranks q_halls_rows q_halls_firsts q_halls_lasts : Nat) (p1 p2 : Int32) (f_hour : Int32) (f_day : Int32) (f_prankHouse : Int32) (f_bells : Int32) (f_echoes : Int32) (f_bellPranks : Int32) (f_houses_size : Int32) (a_houses_cells : Nat → Int32) (f_halls_size : Int32) (a_halls_rows : Nat → Int32) (a_halls_firsts : Nat → Int32) (a_halls_lasts : Nat → Int32) (o : Int32) (h : F_X9_isEchoed p1 p2 a_houses_cells f_halls_size a_halls_rows a_halls_firsts a_halls_lasts = some o) : MR l yX9_isEchoed (Cond.code yX9_isEchoed cX9_isEchoed 4 (some .boolean)) { frames := 2, cells := 0, slots := 0, locals := 45 } D g [.ref q_this, .int p1, .int p2] [(q_this, .inr (9, [.ref q_houses, .ref q_halls, .ref q_posts, .ref q_blocks, .ref q_kinds, .int f_hour, .int f_day, .int f_prankHouse, .int f_bells, .int f_echoes, .int f_bellPranks])), (q_houses, .inr (3, [.int f_houses_size, .ref q_houses_cells, .ref q_houses_froms, .ref q_houses_tos, .ref q_houses_rings, .ref q_houses_pranks])), (q_houses_cells, .inl (g 0, 10, .inl a_houses_cells)), (q_halls, .inr (2, [.int f_halls_size, .ref q_halls_rows, .ref q_halls_firsts, .ref q_halls_lasts])), (q_halls_rows, .inl (g 0, 4, .inl a_halls_rows)), (q_halls_firsts, .inl (g 0, 4, .inl a_halls_firsts)), (q_halls_lasts, .inl (g 0, 4, .inl a_halls_lasts))] (some (.int o)) := by
  refine z_rd_start (by decide) (Nat.le_of_ble_eq_true rfl) ?_
  intro p e s m args below meth c Q X hr hQ
  refine z_lv (lv' := [(0, .ref q_this), (1, .int p1), (2, .int p2)]) rfl ?_
  refine z_aload_n X 0 dX9_isEchoed_0 rfl rfl ?_
  refine z_get (q0 := 0) (k := 1) (ci := 9) X IR_P iw_X9 rfl qf_X9_X9_halls (by decide) dX9_isEchoed_1 rfl rfl ?_
  refine z_aload_n X 0 dX9_isEchoed_4 rfl rfl ?_
  refine z_get (q0 := 0) (k := 0) (ci := 9) X IR_P iw_X9 rfl qf_X9_X9_houses (by decide) dX9_isEchoed_5 rfl rfl ?_
  refine z_iload_n X 1 dX9_isEchoed_8 rfl rfl ?_
  obtain ⟨o1, e2, h⟩ := bnd_p h
  refine z_rdV (rest := [.ref q_halls]) (q0 := 1) (ci := 3) X IR_P k_X2_cellAt (c_X2_cellAt l D g q_houses q_houses_cells q_houses_froms q_houses_tos q_houses_rings q_houses_pranks p1 f_houses_size a_houses_cells o1 e2) ql_X9_X2_cellAt dX9_isEchoed_9 [1, 2] rfl rfl rfl rfl rfl rfl ⟨Nat.le_of_ble_eq_true rfl, Nat.le_of_ble_eq_true rfl, rfl, rfl, Nat.le_of_ble_eq_true rfl, Nat.le_of_ble_eq_true rfl⟩ (Nat.le_of_ble_eq_true rfl) ?_
  obtain ⟨o3, e4, h⟩ := bnd_p h
  refine z_rdV (rest := []) (q0 := 3) (ci := 2) X IR_P k_X1_around (c_X1_around l D g q_halls q_halls_rows q_halls_firsts q_halls_lasts o1 f_halls_size a_halls_rows a_halls_firsts a_halls_lasts o3 e4) ql_X9_X1_around dX9_isEchoed_12 [3, 4, 5, 6] rfl rfl rfl rfl rfl rfl ⟨Nat.le_of_ble_eq_true rfl, Nat.le_of_ble_eq_true rfl, rfl, rfl, Nat.le_of_ble_eq_true rfl, Nat.le_of_ble_eq_true rfl⟩ (Nat.le_of_ble_eq_true rfl) ?_
  refine z_istore_n X [(3, .int o3), (0, .ref q_this), (1, .int p1), (2, .int p2)] dX9_isEchoed_15 rfl (by decide) rfl ?_
  refine z_iload_n X 2 dX9_isEchoed_16 rfl rfl ?_
  refine z_iload_n X 3 dX9_isEchoed_17 rfl rfl ?_
  refine z_icmp_eq X 49 dX9_isEchoed_18 (by decide) h (fun _ h => ?_) (fun _ h => ?_)
  · refine z_iconst X (0 : Int32) dX9_isEchoed_49 (by decide) ?_
    exact z_zretR X hQ hr dX9_isEchoed_50 rfl h
  · refine z_iload_n X 0 dX9_isEchoed_21 rfl rfl ?_
    refine z_iconst X ((-1) : Int32) dX9_isEchoed_22 (by decide) ?_
    refine z_icmp_eq X 49 dX9_isEchoed_23 (by decide) h (fun _ h => ?_) (fun _ h => ?_)
    · refine z_iconst X (0 : Int32) dX9_isEchoed_49 (by decide) ?_
      exact z_zretR X hQ hr dX9_isEchoed_50 rfl h
    · refine z_iload_n X 0 dX9_isEchoed_26 rfl rfl ?_
      refine z_aload_n X 1 dX9_isEchoed_27 rfl rfl ?_
      refine z_get (q0 := 0) (k := 1) (ci := 9) X IR_P iw_X9 rfl qf_X9_X9_halls (by decide) dX9_isEchoed_28 rfl rfl ?_
      refine z_aload_n X 1 dX9_isEchoed_31 rfl rfl ?_
      refine z_get (q0 := 0) (k := 0) (ci := 9) X IR_P iw_X9 rfl qf_X9_X9_houses (by decide) dX9_isEchoed_32 rfl rfl ?_
      refine z_iload_n X 3 dX9_isEchoed_35 rfl rfl ?_
      obtain ⟨o5, e6, h⟩ := bnd_p h
      refine z_rdV (rest := [.ref q_halls, .int o3]) (q0 := 1) (ci := 3) X IR_P k_X2_cellAt (c_X2_cellAt l D g q_houses q_houses_cells q_houses_froms q_houses_tos q_houses_rings q_houses_pranks p2 f_houses_size a_houses_cells o5 e6) ql_X9_X2_cellAt dX9_isEchoed_36 [1, 2] rfl rfl rfl rfl rfl rfl ⟨Nat.le_of_ble_eq_true rfl, Nat.le_of_ble_eq_true rfl, rfl, rfl, Nat.le_of_ble_eq_true rfl, Nat.le_of_ble_eq_true rfl⟩ (Nat.le_of_ble_eq_true rfl) ?_
      obtain ⟨o7, e8, h⟩ := bnd_p h
      refine z_rdV (rest := [.int o3]) (q0 := 3) (ci := 2) X IR_P k_X1_around (c_X1_around l D g q_halls q_halls_rows q_halls_firsts q_halls_lasts o5 f_halls_size a_halls_rows a_halls_firsts a_halls_lasts o7 e8) ql_X9_X1_around dX9_isEchoed_39 [3, 4, 5, 6] rfl rfl rfl rfl rfl rfl ⟨Nat.le_of_ble_eq_true rfl, Nat.le_of_ble_eq_true rfl, rfl, rfl, Nat.le_of_ble_eq_true rfl, Nat.le_of_ble_eq_true rfl⟩ (Nat.le_of_ble_eq_true rfl) ?_
      refine z_icmp_ne X 49 dX9_isEchoed_42 (by decide) h (fun _ h => ?_) (fun _ h => ?_)
      · refine z_iconst X (1 : Int32) dX9_isEchoed_45 (by decide) ?_
        refine z_goto X 50 dX9_isEchoed_46 (by decide) ?_
        exact z_zretR X hQ hr dX9_isEchoed_50 rfl h
      · refine z_iconst X (0 : Int32) dX9_isEchoed_49 (by decide) ?_
        exact z_zretR X hQ hr dX9_isEchoed_50 rfl h

def F_X0_distance (p0 : Int32) (p1 : Int32) : Option (Int32) :=
  bnd (F_X0_rowOf p0) (fun o1 => bnd (F_X0_rowOf p1) (fun o3 => bnd (F_X0_columnOf p0) (fun o5 => bnd (F_X0_columnOf p1) (fun o7 => some ((if 0 ≤ (o1 - o3) then (o1 - o3) else 0 - (o1 - o3)) + (if 0 ≤ (o5 - o7) then (o5 - o7) else 0 - (o5 - o7)))))))
theorem dX0_distance_0 : decode cX0_distance 0 = .ok (.iload_n 0, 1) := by decide +kernel
theorem dX0_distance_1 : decode cX0_distance 1 = .ok (.invokestatic 17, 3) := by decide +kernel
theorem dX0_distance_4 : decode cX0_distance 4 = .ok (.iload_n 1, 1) := by decide +kernel
theorem dX0_distance_5 : decode cX0_distance 5 = .ok (.invokestatic 17, 3) := by decide +kernel
theorem dX0_distance_8 : decode cX0_distance 8 = .ok (.isub, 1) := by decide +kernel
theorem dX0_distance_9 : decode cX0_distance 9 = .ok (.invokestatic 23, 3) := by decide +kernel
theorem dX0_distance_12 : decode cX0_distance 12 = .ok (.iload_n 0, 1) := by decide +kernel
theorem dX0_distance_13 : decode cX0_distance 13 = .ok (.invokestatic 28, 3) := by decide +kernel
theorem dX0_distance_16 : decode cX0_distance 16 = .ok (.iload_n 1, 1) := by decide +kernel
theorem dX0_distance_17 : decode cX0_distance 17 = .ok (.invokestatic 28, 3) := by decide +kernel
theorem dX0_distance_20 : decode cX0_distance 20 = .ok (.isub, 1) := by decide +kernel
theorem dX0_distance_21 : decode cX0_distance 21 = .ok (.invokestatic 23, 3) := by decide +kernel
theorem dX0_distance_24 : decode cX0_distance 24 = .ok (.iadd, 1) := by decide +kernel
theorem dX0_distance_25 : decode cX0_distance 25 = .ok (.ireturn, 1) := by decide +kernel
theorem k_X0_distance : cardS yX0_distance (Cond.code yX0_distance cX0_distance 2 (some .int)) 2 := ⟨qs_X0_distance, qc_X0_distance, qn_X0, by decide +kernel, by decide +kernel, by decide +kernel⟩
set_option maxHeartbeats 4000000 in
set_option maxRecDepth 100000 in
theorem c_X0_distance (l : Launch) (D : va_G) (g : Nat → ClassId) (p0 p1 : Int32) (o : Int32) (h : F_X0_distance p0 p1 = some o) : MR l yX0_distance (Cond.code yX0_distance cX0_distance 2 (some .int)) { frames := 1, cells := 0, slots := 0, locals := 40 } D g [.int p0, .int p1] [] (some (.int o)) := by
  refine z_rd_start (by decide) (Nat.le_of_ble_eq_true rfl) ?_
  intro p e s m args below meth c Q X hr hQ
  refine z_lv (lv' := [(0, .int p0), (1, .int p1)]) rfl ?_
  refine z_iload_n X 0 dX0_distance_0 rfl rfl ?_
  obtain ⟨o1, e2, h⟩ := bnd_p h
  refine z_rdS (rest := []) X IR_P k_X0_rowOf (c_X0_rowOf l D g p0 o1 e2) ql_X0_X0_rowOf dX0_distance_1 [] rfl rfl rfl ⟨Nat.le_of_ble_eq_true rfl, Nat.le_of_ble_eq_true rfl, rfl, rfl, Nat.le_of_ble_eq_true rfl, Nat.le_of_ble_eq_true rfl⟩ (Nat.le_of_ble_eq_true rfl) ?_
  refine z_iload_n X 1 dX0_distance_4 rfl rfl ?_
  obtain ⟨o3, e4, h⟩ := bnd_p h
  refine z_rdS (rest := [.int o1]) X IR_P k_X0_rowOf (c_X0_rowOf l D g p1 o3 e4) ql_X0_X0_rowOf dX0_distance_5 [] rfl rfl rfl ⟨Nat.le_of_ble_eq_true rfl, Nat.le_of_ble_eq_true rfl, rfl, rfl, Nat.le_of_ble_eq_true rfl, Nat.le_of_ble_eq_true rfl⟩ (Nat.le_of_ble_eq_true rfl) ?_
  refine z_isub X dX0_distance_8 ?_
  refine z_mabs X ql_X0_mabs dX0_distance_9 (Nat.le_of_ble_eq_true rfl) (Nat.le_of_ble_eq_true rfl) (Nat.le_of_ble_eq_true rfl) (Nat.le_of_ble_eq_true rfl) ?_
  refine z_iload_n X 0 dX0_distance_12 rfl rfl ?_
  obtain ⟨o5, e6, h⟩ := bnd_p h
  refine z_rdS (rest := [.int (if 0 ≤ (o1 - o3) then (o1 - o3) else 0 - (o1 - o3))]) X IR_P k_X0_columnOf (c_X0_columnOf l D g p0 o5 e6) ql_X0_X0_columnOf dX0_distance_13 [] rfl rfl rfl ⟨Nat.le_of_ble_eq_true rfl, Nat.le_of_ble_eq_true rfl, rfl, rfl, Nat.le_of_ble_eq_true rfl, Nat.le_of_ble_eq_true rfl⟩ (Nat.le_of_ble_eq_true rfl) ?_
  refine z_iload_n X 1 dX0_distance_16 rfl rfl ?_
  obtain ⟨o7, e8, h⟩ := bnd_p h
  refine z_rdS (rest := [.int o5, .int (if 0 ≤ (o1 - o3) then (o1 - o3) else 0 - (o1 - o3))]) X IR_P k_X0_columnOf (c_X0_columnOf l D g p1 o7 e8) ql_X0_X0_columnOf dX0_distance_17 [] rfl rfl rfl ⟨Nat.le_of_ble_eq_true rfl, Nat.le_of_ble_eq_true rfl, rfl, rfl, Nat.le_of_ble_eq_true rfl, Nat.le_of_ble_eq_true rfl⟩ (Nat.le_of_ble_eq_true rfl) ?_
  refine z_isub X dX0_distance_20 ?_
  refine z_mabs X ql_X0_mabs dX0_distance_21 (Nat.le_of_ble_eq_true rfl) (Nat.le_of_ble_eq_true rfl) (Nat.le_of_ble_eq_true rfl) (Nat.le_of_ble_eq_true rfl) ?_
  refine z_iadd X dX0_distance_24 ?_
  exact z_iretR X hQ hr dX0_distance_25 h

def F_X9_shortsLeft (p1 : Int32) (p2 : Int32) (p3 : Int32) (a_houses_cells : Nat → Int32) : Option (Int32) :=
  bnd (F_X2_cellAt p1 a_houses_cells) (fun o1 => bnd (F_X2_cellAt p2 a_houses_cells) (fun o3 => bnd (F_X0_distance o1 o3) (fun o5 => some (if (0 : Int32) < (p3 - o5) then (p3 - o5) else (0 : Int32)))))
theorem dX9_shortsLeft_0 : decode cX9_shortsLeft 0 = .ok (.iconst 0, 1) := by decide +kernel
theorem dX9_shortsLeft_1 : decode cX9_shortsLeft 1 = .ok (.iload_n 3, 1) := by decide +kernel
theorem dX9_shortsLeft_2 : decode cX9_shortsLeft 2 = .ok (.aload_n 0, 1) := by decide +kernel
theorem dX9_shortsLeft_3 : decode cX9_shortsLeft 3 = .ok (.getfield 12, 3) := by decide +kernel
theorem dX9_shortsLeft_6 : decode cX9_shortsLeft 6 = .ok (.iload_n 1, 1) := by decide +kernel
theorem dX9_shortsLeft_7 : decode cX9_shortsLeft 7 = .ok (.invokevirtual 147, 3) := by decide +kernel
theorem dX9_shortsLeft_10 : decode cX9_shortsLeft 10 = .ok (.aload_n 0, 1) := by decide +kernel
theorem dX9_shortsLeft_11 : decode cX9_shortsLeft 11 = .ok (.getfield 12, 3) := by decide +kernel
theorem dX9_shortsLeft_14 : decode cX9_shortsLeft 14 = .ok (.iload_n 2, 1) := by decide +kernel
theorem dX9_shortsLeft_15 : decode cX9_shortsLeft 15 = .ok (.invokevirtual 147, 3) := by decide +kernel
theorem dX9_shortsLeft_18 : decode cX9_shortsLeft 18 = .ok (.invokestatic 149, 3) := by decide +kernel
theorem dX9_shortsLeft_21 : decode cX9_shortsLeft 21 = .ok (.isub, 1) := by decide +kernel
theorem dX9_shortsLeft_22 : decode cX9_shortsLeft 22 = .ok (.invokestatic 152, 3) := by decide +kernel
theorem dX9_shortsLeft_25 : decode cX9_shortsLeft 25 = .ok (.ireturn, 1) := by decide +kernel
theorem k_X9_shortsLeft : cardV yX9_shortsLeft (Cond.code yX9_shortsLeft cX9_shortsLeft 4 (some .int)) 3 := ⟨⟨qi_X9_shortsLeft, qv_X9_shortsLeft⟩, qc_X9_shortsLeft, qn_X9, by decide +kernel, by decide +kernel, by decide +kernel⟩
set_option maxHeartbeats 4000000 in
set_option maxRecDepth 100000 in
theorem c_X9_shortsLeft (l : Launch) (D : va_G) (g : Nat → ClassId) (q_this q_houses q_halls q_posts q_blocks q_kinds q_houses_cells q_houses_froms q_houses_tos q_houses_rings q_houses_pranks : Nat) (p1 p2 p3 : Int32) (f_hour : Int32) (f_day : Int32) (f_prankHouse : Int32) (f_bells : Int32) (f_echoes : Int32) (f_bellPranks : Int32) (f_houses_size : Int32) (a_houses_cells : Nat → Int32) (o : Int32) (h : F_X9_shortsLeft p1 p2 p3 a_houses_cells = some o) : MR l yX9_shortsLeft (Cond.code yX9_shortsLeft cX9_shortsLeft 4 (some .int)) { frames := 2, cells := 0, slots := 0, locals := 61 } D g [.ref q_this, .int p1, .int p2, .int p3] [(q_this, .inr (9, [.ref q_houses, .ref q_halls, .ref q_posts, .ref q_blocks, .ref q_kinds, .int f_hour, .int f_day, .int f_prankHouse, .int f_bells, .int f_echoes, .int f_bellPranks])), (q_houses, .inr (3, [.int f_houses_size, .ref q_houses_cells, .ref q_houses_froms, .ref q_houses_tos, .ref q_houses_rings, .ref q_houses_pranks])), (q_houses_cells, .inl (g 0, 10, .inl a_houses_cells))] (some (.int o)) := by
  refine z_rd_start (by decide) (Nat.le_of_ble_eq_true rfl) ?_
  intro p e s m args below meth c Q X hr hQ
  refine z_lv (lv' := [(0, .ref q_this), (1, .int p1), (2, .int p2), (3, .int p3)]) rfl ?_
  refine z_iconst X (0 : Int32) dX9_shortsLeft_0 (by decide) ?_
  refine z_iload_n X 3 dX9_shortsLeft_1 rfl rfl ?_
  refine z_aload_n X 0 dX9_shortsLeft_2 rfl rfl ?_
  refine z_get (q0 := 0) (k := 0) (ci := 9) X IR_P iw_X9 rfl qf_X9_X9_houses (by decide) dX9_shortsLeft_3 rfl rfl ?_
  refine z_iload_n X 1 dX9_shortsLeft_6 rfl rfl ?_
  obtain ⟨o1, e2, h⟩ := bnd_p h
  refine z_rdV (rest := [.int p3, .int (0 : Int32)]) (q0 := 1) (ci := 3) X IR_P k_X2_cellAt (c_X2_cellAt l D g q_houses q_houses_cells q_houses_froms q_houses_tos q_houses_rings q_houses_pranks p1 f_houses_size a_houses_cells o1 e2) ql_X9_X2_cellAt dX9_shortsLeft_7 [1, 2] rfl rfl rfl rfl rfl rfl ⟨Nat.le_of_ble_eq_true rfl, Nat.le_of_ble_eq_true rfl, rfl, rfl, Nat.le_of_ble_eq_true rfl, Nat.le_of_ble_eq_true rfl⟩ (Nat.le_of_ble_eq_true rfl) ?_
  refine z_aload_n X 0 dX9_shortsLeft_10 rfl rfl ?_
  refine z_get (q0 := 0) (k := 0) (ci := 9) X IR_P iw_X9 rfl qf_X9_X9_houses (by decide) dX9_shortsLeft_11 rfl rfl ?_
  refine z_iload_n X 2 dX9_shortsLeft_14 rfl rfl ?_
  obtain ⟨o3, e4, h⟩ := bnd_p h
  refine z_rdV (rest := [.int o1, .int p3, .int (0 : Int32)]) (q0 := 1) (ci := 3) X IR_P k_X2_cellAt (c_X2_cellAt l D g q_houses q_houses_cells q_houses_froms q_houses_tos q_houses_rings q_houses_pranks p2 f_houses_size a_houses_cells o3 e4) ql_X9_X2_cellAt dX9_shortsLeft_15 [1, 2] rfl rfl rfl rfl rfl rfl ⟨Nat.le_of_ble_eq_true rfl, Nat.le_of_ble_eq_true rfl, rfl, rfl, Nat.le_of_ble_eq_true rfl, Nat.le_of_ble_eq_true rfl⟩ (Nat.le_of_ble_eq_true rfl) ?_
  obtain ⟨o5, e6, h⟩ := bnd_p h
  refine z_rdS (rest := [.int p3, .int (0 : Int32)]) X IR_P k_X0_distance (c_X0_distance l D g o1 o3 o5 e6) ql_X9_X0_distance dX9_shortsLeft_18 [] rfl rfl rfl ⟨Nat.le_of_ble_eq_true rfl, Nat.le_of_ble_eq_true rfl, rfl, rfl, Nat.le_of_ble_eq_true rfl, Nat.le_of_ble_eq_true rfl⟩ (Nat.le_of_ble_eq_true rfl) ?_
  refine z_isub X dX9_shortsLeft_21 ?_
  refine z_mmax X ql_X9_mmax dX9_shortsLeft_22 (Nat.le_of_ble_eq_true rfl) (Nat.le_of_ble_eq_true rfl) (Nat.le_of_ble_eq_true rfl) (Nat.le_of_ble_eq_true rfl) ?_
  exact z_iretR X hQ hr dX9_shortsLeft_25 h

def F_X9_isHeardAt (p1 : Int32) (p2 : Int32) (p3 : Int32) (p4 : Int32) (a_houses_cells : Nat → Int32) (f_halls_size : Int32) (a_halls_rows : Nat → Int32) (a_halls_firsts : Nat → Int32) (a_halls_lasts : Nat → Int32) : Option (Int32) :=
  bnd (F_X9_isEchoed p1 p2 a_houses_cells f_halls_size a_halls_rows a_halls_firsts a_halls_lasts) (fun o1 => brn (o1 = 0) (some ((0 : Int32))) (bnd (F_X9_shortsLeft p1 p2 p3 a_houses_cells) (fun o3 => brn ((o3 + p4) ≤ 0) (some ((0 : Int32))) (some ((1 : Int32))))))
theorem dX9_isHeardAt_0 : decode cX9_isHeardAt 0 = .ok (.aload_n 0, 1) := by decide +kernel
theorem dX9_isHeardAt_1 : decode cX9_isHeardAt 1 = .ok (.iload_n 1, 1) := by decide +kernel
theorem dX9_isHeardAt_2 : decode cX9_isHeardAt 2 = .ok (.iload_n 2, 1) := by decide +kernel
theorem dX9_isHeardAt_3 : decode cX9_isHeardAt 3 = .ok (.invokevirtual 157, 3) := by decide +kernel
theorem dX9_isHeardAt_6 : decode cX9_isHeardAt 6 = .ok (.ifCond .eq 20, 3) := by decide +kernel
theorem dX9_isHeardAt_9 : decode cX9_isHeardAt 9 = .ok (.aload_n 0, 1) := by decide +kernel
theorem dX9_isHeardAt_10 : decode cX9_isHeardAt 10 = .ok (.iload_n 1, 1) := by decide +kernel
theorem dX9_isHeardAt_11 : decode cX9_isHeardAt 11 = .ok (.iload_n 2, 1) := by decide +kernel
theorem dX9_isHeardAt_12 : decode cX9_isHeardAt 12 = .ok (.iload_n 3, 1) := by decide +kernel
theorem dX9_isHeardAt_13 : decode cX9_isHeardAt 13 = .ok (.invokevirtual 160, 3) := by decide +kernel
theorem dX9_isHeardAt_16 : decode cX9_isHeardAt 16 = .ok (.iload 4, 2) := by decide +kernel
theorem dX9_isHeardAt_18 : decode cX9_isHeardAt 18 = .ok (.iadd, 1) := by decide +kernel
theorem dX9_isHeardAt_19 : decode cX9_isHeardAt 19 = .ok (.ifCond .le 7, 3) := by decide +kernel
theorem dX9_isHeardAt_22 : decode cX9_isHeardAt 22 = .ok (.iconst 1, 1) := by decide +kernel
theorem dX9_isHeardAt_23 : decode cX9_isHeardAt 23 = .ok (.goto 4, 3) := by decide +kernel
theorem dX9_isHeardAt_26 : decode cX9_isHeardAt 26 = .ok (.iconst 0, 1) := by decide +kernel
theorem dX9_isHeardAt_27 : decode cX9_isHeardAt 27 = .ok (.ireturn, 1) := by decide +kernel
theorem k_X9_isHeardAt : cardV yX9_isHeardAt (Cond.code yX9_isHeardAt cX9_isHeardAt 5 (some .boolean)) 4 := ⟨⟨qi_X9_isHeardAt, qv_X9_isHeardAt⟩, qc_X9_isHeardAt, qn_X9, by decide +kernel, by decide +kernel, by decide +kernel⟩
set_option maxHeartbeats 4000000 in
set_option maxRecDepth 100000 in
theorem c_X9_isHeardAt (l : Launch) (D : va_G) (g : Nat → ClassId) (q_this q_houses q_halls q_posts q_blocks q_kinds q_houses_cells q_houses_froms q_houses_tos q_houses_rings q_houses_pranks q_halls_rows q_halls_firsts q_halls_lasts : Nat) (p1 p2 p3 p4 : Int32) (f_hour : Int32) (f_day : Int32) (f_prankHouse : Int32) (f_bells : Int32) (f_echoes : Int32) (f_bellPranks : Int32) (f_houses_size : Int32) (a_houses_cells : Nat → Int32) (f_halls_size : Int32) (a_halls_rows : Nat → Int32) (a_halls_firsts : Nat → Int32) (a_halls_lasts : Nat → Int32) (o : Int32) (h : F_X9_isHeardAt p1 p2 p3 p4 a_houses_cells f_halls_size a_halls_rows a_halls_firsts a_halls_lasts = some o) : MR l yX9_isHeardAt (Cond.code yX9_isHeardAt cX9_isHeardAt 5 (some .boolean)) { frames := 3, cells := 0, slots := 0, locals := 84 } D g [.ref q_this, .int p1, .int p2, .int p3, .int p4] [(q_this, .inr (9, [.ref q_houses, .ref q_halls, .ref q_posts, .ref q_blocks, .ref q_kinds, .int f_hour, .int f_day, .int f_prankHouse, .int f_bells, .int f_echoes, .int f_bellPranks])), (q_houses, .inr (3, [.int f_houses_size, .ref q_houses_cells, .ref q_houses_froms, .ref q_houses_tos, .ref q_houses_rings, .ref q_houses_pranks])), (q_houses_cells, .inl (g 0, 10, .inl a_houses_cells)), (q_halls, .inr (2, [.int f_halls_size, .ref q_halls_rows, .ref q_halls_firsts, .ref q_halls_lasts])), (q_halls_rows, .inl (g 0, 4, .inl a_halls_rows)), (q_halls_firsts, .inl (g 0, 4, .inl a_halls_firsts)), (q_halls_lasts, .inl (g 0, 4, .inl a_halls_lasts))] (some (.int o)) := by
  refine z_rd_start (by decide) (Nat.le_of_ble_eq_true rfl) ?_
  intro p e s m args below meth c Q X hr hQ
  refine z_lv (lv' := [(0, .ref q_this), (1, .int p1), (2, .int p2), (3, .int p3), (4, .int p4)]) rfl ?_
  refine z_aload_n X 0 dX9_isHeardAt_0 rfl rfl ?_
  refine z_iload_n X 1 dX9_isHeardAt_1 rfl rfl ?_
  refine z_iload_n X 2 dX9_isHeardAt_2 rfl rfl ?_
  obtain ⟨o1, e2, h⟩ := bnd_p h
  refine z_rdV (rest := []) (q0 := 0) (ci := 9) X IR_P k_X9_isEchoed (c_X9_isEchoed l D g q_this q_houses q_halls q_posts q_blocks q_kinds q_houses_cells q_houses_froms q_houses_tos q_houses_rings q_houses_pranks q_halls_rows q_halls_firsts q_halls_lasts p1 p2 f_hour f_day f_prankHouse f_bells f_echoes f_bellPranks f_houses_size a_houses_cells f_halls_size a_halls_rows a_halls_firsts a_halls_lasts o1 e2) ql_X9_X9_isEchoed dX9_isHeardAt_3 [0, 1, 2, 3, 4, 5, 6] rfl rfl rfl rfl rfl rfl ⟨Nat.le_of_ble_eq_true rfl, Nat.le_of_ble_eq_true rfl, rfl, rfl, Nat.le_of_ble_eq_true rfl, Nat.le_of_ble_eq_true rfl⟩ (Nat.le_of_ble_eq_true rfl) ?_
  refine z_if_eq X 26 dX9_isHeardAt_6 (by decide) h (fun _ h => ?_) (fun _ h => ?_)
  · refine z_iconst X (0 : Int32) dX9_isHeardAt_26 (by decide) ?_
    exact z_zretR X hQ hr dX9_isHeardAt_27 rfl h
  · refine z_aload_n X 0 dX9_isHeardAt_9 rfl rfl ?_
    refine z_iload_n X 1 dX9_isHeardAt_10 rfl rfl ?_
    refine z_iload_n X 2 dX9_isHeardAt_11 rfl rfl ?_
    refine z_iload_n X 3 dX9_isHeardAt_12 rfl rfl ?_
    obtain ⟨o3, e4, h⟩ := bnd_p h
    refine z_rdV (rest := []) (q0 := 0) (ci := 9) X IR_P k_X9_shortsLeft (c_X9_shortsLeft l D g q_this q_houses q_halls q_posts q_blocks q_kinds q_houses_cells q_houses_froms q_houses_tos q_houses_rings q_houses_pranks p1 p2 p3 f_hour f_day f_prankHouse f_bells f_echoes f_bellPranks f_houses_size a_houses_cells o3 e4) ql_X9_X9_shortsLeft dX9_isHeardAt_13 [0, 1, 2] rfl rfl rfl rfl rfl rfl ⟨Nat.le_of_ble_eq_true rfl, Nat.le_of_ble_eq_true rfl, rfl, rfl, Nat.le_of_ble_eq_true rfl, Nat.le_of_ble_eq_true rfl⟩ (Nat.le_of_ble_eq_true rfl) ?_
    refine z_iload X 4 dX9_isHeardAt_16 rfl ?_
    refine z_iadd X dX9_isHeardAt_18 ?_
    refine z_if_le X 26 dX9_isHeardAt_19 (by decide) h (fun _ h => ?_) (fun _ h => ?_)
    · refine z_iconst X (0 : Int32) dX9_isHeardAt_26 (by decide) ?_
      exact z_zretR X hQ hr dX9_isHeardAt_27 rfl h
    · refine z_iconst X (1 : Int32) dX9_isHeardAt_22 (by decide) ?_
      refine z_goto X 27 dX9_isHeardAt_23 (by decide) ?_
      exact z_zretR X hQ hr dX9_isHeardAt_27 rfl h

def L_X9_ringAt_50 (p1 : Int32) (p2 : Int32) (p3 : Int32) (f_hour : Int32) (f_houses_size : Int32) (a_houses_cells : Nat → Int32) (a_houses_froms : Nat → Int32) (a_houses_tos : Nat → Int32) (f_halls_size : Int32) (a_halls_rows : Nat → Int32) (a_halls_firsts : Nat → Int32) (a_halls_lasts : Nat → Int32) (f_posts_size : Int32) : Nat → Int32 → Int32 → (Int32) → (Int32) → (Int32) → (Int32) → (Nat → Int32) → (Nat → Int32) → (Nat → Int32) → (Nat → Int32) → Option (Int32 × Int32 × Int32 × Int32 × Int32 × (Nat → Int32) × (Nat → Int32) × (Nat → Int32) × (Nat → Int32))
  | 0, _, _, _, _, _, _, _, _, _, _ => none
  | _n + 1, x4, x5, f_prankHouse, f_bells, f_echoes, f_bellPranks, a_houses_rings, a_houses_pranks, a_posts_tolds, a_kinds =>
    bnd (F_X2_size f_houses_size) (fun o5 => brn (o5 ≤ x5) (some (x4, f_prankHouse, f_bells, f_echoes, f_bellPranks, a_houses_rings, a_houses_pranks, a_posts_tolds, a_kinds)) (bnd (F_X9_isHeardAt p1 x5 p2 p3 a_houses_cells f_halls_size a_halls_rows a_halls_firsts a_halls_lasts) (fun o7 => brn (o7 = 0) (L_X9_ringAt_50 p1 p2 p3 f_hour f_houses_size a_houses_cells a_houses_froms a_houses_tos f_halls_size a_halls_rows a_halls_firsts a_halls_lasts f_posts_size _n x4 (x5 + 1) f_prankHouse f_bells f_echoes f_bellPranks a_houses_rings a_houses_pranks a_posts_tolds a_kinds) (bnd (F_X9_shortsLeft p1 x5 p2 a_houses_cells) (fun o9 => bnd (F_X9_hearAt x5 o9 p3 f_hour a_houses_froms a_houses_tos a_houses_rings a_houses_pranks a_kinds) (fun o11 => L_X9_ringAt_50 p1 p2 p3 f_hour f_houses_size a_houses_cells a_houses_froms a_houses_tos f_halls_size a_halls_rows a_halls_firsts a_halls_lasts f_posts_size _n x4 (x5 + 1) f_prankHouse f_bells (f_echoes + (1 : Int32)) f_bellPranks o11.2.1 o11.2.2.1 a_posts_tolds o11.2.2.2))))))

def J_X9_ringAt_47 (p1 : Int32) (p2 : Int32) (p3 : Int32) (f_hour : Int32) (f_houses_size : Int32) (a_houses_cells : Nat → Int32) (a_houses_froms : Nat → Int32) (a_houses_tos : Nat → Int32) (f_halls_size : Int32) (a_halls_rows : Nat → Int32) (a_halls_firsts : Nat → Int32) (a_halls_lasts : Nat → Int32) (f_posts_size : Int32) (x4 : Int32) (f_prankHouse : Int32) (f_bells : Int32) (f_echoes : Int32) (f_bellPranks : Int32) (a_houses_rings : Nat → Int32) (a_houses_pranks : Nat → Int32) (a_posts_tolds : Nat → Int32) (a_kinds : Nat → Int32) : Option (Int32 × Int32 × Int32 × Int32 × Int32 × (Nat → Int32) × (Nat → Int32) × (Nat → Int32) × (Nat → Int32)) :=
  L_X9_ringAt_50 p1 p2 p3 f_hour f_houses_size a_houses_cells a_houses_froms a_houses_tos f_halls_size a_halls_rows a_halls_firsts a_halls_lasts f_posts_size 100 x4 (0 : Int32) f_prankHouse f_bells f_echoes f_bellPranks a_houses_rings a_houses_pranks a_posts_tolds a_kinds

def F_X9_ringAt (p1 : Int32) (p2 : Int32) (p3 : Int32) (f_hour : Int32) (f_houses_size : Int32) (a_houses_cells : Nat → Int32) (a_houses_froms : Nat → Int32) (a_houses_tos : Nat → Int32) (f_halls_size : Int32) (a_halls_rows : Nat → Int32) (a_halls_firsts : Nat → Int32) (a_halls_lasts : Nat → Int32) (f_posts_size : Int32) (f_prankHouse : Int32) (f_bells : Int32) (f_echoes : Int32) (f_bellPranks : Int32) (a_houses_rings : Nat → Int32) (a_houses_pranks : Nat → Int32) (a_posts_tolds : Nat → Int32) (a_kinds : Nat → Int32) : Option (Int32 × Int32 × Int32 × Int32 × Int32 × (Nat → Int32) × (Nat → Int32) × (Nat → Int32) × (Nat → Int32)) :=
  bnd (F_X9_hearAt p1 p2 p3 f_hour a_houses_froms a_houses_tos a_houses_rings a_houses_pranks a_kinds) (fun o1 => brn (o1.1 = (3 : Int32)) (bnd (F_X5_forgetTold f_posts_size a_posts_tolds) (fun o3 => J_X9_ringAt_47 p1 p2 p3 f_hour f_houses_size a_houses_cells a_houses_froms a_houses_tos f_halls_size a_halls_rows a_halls_firsts a_halls_lasts f_posts_size o1.1 p1 (f_bells + (1 : Int32)) f_echoes (f_bellPranks + (1 : Int32)) o1.2.1 o1.2.2.1 o3 o1.2.2.2)) (J_X9_ringAt_47 p1 p2 p3 f_hour f_houses_size a_houses_cells a_houses_froms a_houses_tos f_halls_size a_halls_rows a_halls_firsts a_halls_lasts f_posts_size o1.1 f_prankHouse (f_bells + (1 : Int32)) f_echoes f_bellPranks o1.2.1 o1.2.2.1 a_posts_tolds o1.2.2.2))
theorem dX9_ringAt_0 : decode cX9_ringAt 0 = .ok (.aload_n 0, 1) := by decide +kernel
theorem dX9_ringAt_1 : decode cX9_ringAt 1 = .ok (.iload_n 1, 1) := by decide +kernel
theorem dX9_ringAt_2 : decode cX9_ringAt 2 = .ok (.iload_n 2, 1) := by decide +kernel
theorem dX9_ringAt_3 : decode cX9_ringAt 3 = .ok (.iload_n 3, 1) := by decide +kernel
theorem dX9_ringAt_4 : decode cX9_ringAt 4 = .ok (.invokevirtual 172, 3) := by decide +kernel
theorem dX9_ringAt_7 : decode cX9_ringAt 7 = .ok (.istore 4, 2) := by decide +kernel
theorem dX9_ringAt_9 : decode cX9_ringAt 9 = .ok (.aload_n 0, 1) := by decide +kernel
theorem dX9_ringAt_10 : decode cX9_ringAt 10 = .ok (.dup, 1) := by decide +kernel
theorem dX9_ringAt_11 : decode cX9_ringAt 11 = .ok (.getfield 49, 3) := by decide +kernel
theorem dX9_ringAt_14 : decode cX9_ringAt 14 = .ok (.iconst 1, 1) := by decide +kernel
theorem dX9_ringAt_15 : decode cX9_ringAt 15 = .ok (.iadd, 1) := by decide +kernel
theorem dX9_ringAt_16 : decode cX9_ringAt 16 = .ok (.putfield 49, 3) := by decide +kernel
theorem dX9_ringAt_19 : decode cX9_ringAt 19 = .ok (.iload 4, 2) := by decide +kernel
theorem dX9_ringAt_21 : decode cX9_ringAt 21 = .ok (.iconst 3, 1) := by decide +kernel
theorem dX9_ringAt_22 : decode cX9_ringAt 22 = .ok (.if_icmp .ne 25, 3) := by decide +kernel
theorem dX9_ringAt_25 : decode cX9_ringAt 25 = .ok (.aload_n 0, 1) := by decide +kernel
theorem dX9_ringAt_26 : decode cX9_ringAt 26 = .ok (.dup, 1) := by decide +kernel
theorem dX9_ringAt_27 : decode cX9_ringAt 27 = .ok (.getfield 55, 3) := by decide +kernel
theorem dX9_ringAt_30 : decode cX9_ringAt 30 = .ok (.iconst 1, 1) := by decide +kernel
theorem dX9_ringAt_31 : decode cX9_ringAt 31 = .ok (.iadd, 1) := by decide +kernel
theorem dX9_ringAt_32 : decode cX9_ringAt 32 = .ok (.putfield 55, 3) := by decide +kernel
theorem dX9_ringAt_35 : decode cX9_ringAt 35 = .ok (.aload_n 0, 1) := by decide +kernel
theorem dX9_ringAt_36 : decode cX9_ringAt 36 = .ok (.iload_n 1, 1) := by decide +kernel
theorem dX9_ringAt_37 : decode cX9_ringAt 37 = .ok (.putfield 46, 3) := by decide +kernel
theorem dX9_ringAt_40 : decode cX9_ringAt 40 = .ok (.aload_n 0, 1) := by decide +kernel
theorem dX9_ringAt_41 : decode cX9_ringAt 41 = .ok (.getfield 28, 3) := by decide +kernel
theorem dX9_ringAt_44 : decode cX9_ringAt 44 = .ok (.invokevirtual 175, 3) := by decide +kernel
theorem dX9_ringAt_47 : decode cX9_ringAt 47 = .ok (.iconst 0, 1) := by decide +kernel
theorem dX9_ringAt_48 : decode cX9_ringAt 48 = .ok (.istore 5, 2) := by decide +kernel
theorem dX9_ringAt_50 : decode cX9_ringAt 50 = .ok (.iload 5, 2) := by decide +kernel
theorem dX9_ringAt_52 : decode cX9_ringAt 52 = .ok (.aload_n 0, 1) := by decide +kernel
theorem dX9_ringAt_53 : decode cX9_ringAt 53 = .ok (.getfield 12, 3) := by decide +kernel
theorem dX9_ringAt_56 : decode cX9_ringAt 56 = .ok (.invokevirtual 164, 3) := by decide +kernel
theorem dX9_ringAt_59 : decode cX9_ringAt 59 = .ok (.if_icmp .ge 47, 3) := by decide +kernel
theorem dX9_ringAt_62 : decode cX9_ringAt 62 = .ok (.aload_n 0, 1) := by decide +kernel
theorem dX9_ringAt_63 : decode cX9_ringAt 63 = .ok (.iload_n 1, 1) := by decide +kernel
theorem dX9_ringAt_64 : decode cX9_ringAt 64 = .ok (.iload 5, 2) := by decide +kernel
theorem dX9_ringAt_66 : decode cX9_ringAt 66 = .ok (.iload_n 2, 1) := by decide +kernel
theorem dX9_ringAt_67 : decode cX9_ringAt 67 = .ok (.iload_n 3, 1) := by decide +kernel
theorem dX9_ringAt_68 : decode cX9_ringAt 68 = .ok (.invokevirtual 168, 3) := by decide +kernel
theorem dX9_ringAt_71 : decode cX9_ringAt 71 = .ok (.ifCond .eq 29, 3) := by decide +kernel
theorem dX9_ringAt_74 : decode cX9_ringAt 74 = .ok (.aload_n 0, 1) := by decide +kernel
theorem dX9_ringAt_75 : decode cX9_ringAt 75 = .ok (.iload 5, 2) := by decide +kernel
theorem dX9_ringAt_77 : decode cX9_ringAt 77 = .ok (.aload_n 0, 1) := by decide +kernel
theorem dX9_ringAt_78 : decode cX9_ringAt 78 = .ok (.iload_n 1, 1) := by decide +kernel
theorem dX9_ringAt_79 : decode cX9_ringAt 79 = .ok (.iload 5, 2) := by decide +kernel
theorem dX9_ringAt_81 : decode cX9_ringAt 81 = .ok (.iload_n 2, 1) := by decide +kernel
theorem dX9_ringAt_82 : decode cX9_ringAt 82 = .ok (.invokevirtual 160, 3) := by decide +kernel
theorem dX9_ringAt_85 : decode cX9_ringAt 85 = .ok (.iload_n 3, 1) := by decide +kernel
theorem dX9_ringAt_86 : decode cX9_ringAt 86 = .ok (.invokevirtual 172, 3) := by decide +kernel
theorem dX9_ringAt_89 : decode cX9_ringAt 89 = .ok (.pop, 1) := by decide +kernel
theorem dX9_ringAt_90 : decode cX9_ringAt 90 = .ok (.aload_n 0, 1) := by decide +kernel
theorem dX9_ringAt_91 : decode cX9_ringAt 91 = .ok (.dup, 1) := by decide +kernel
theorem dX9_ringAt_92 : decode cX9_ringAt 92 = .ok (.getfield 52, 3) := by decide +kernel
theorem dX9_ringAt_95 : decode cX9_ringAt 95 = .ok (.iconst 1, 1) := by decide +kernel
theorem dX9_ringAt_96 : decode cX9_ringAt 96 = .ok (.iadd, 1) := by decide +kernel
theorem dX9_ringAt_97 : decode cX9_ringAt 97 = .ok (.putfield 52, 3) := by decide +kernel
theorem dX9_ringAt_100 : decode cX9_ringAt 100 = .ok (.iinc 5 1, 3) := by decide +kernel
theorem dX9_ringAt_103 : decode cX9_ringAt 103 = .ok (.goto (-53), 3) := by decide +kernel
theorem dX9_ringAt_106 : decode cX9_ringAt 106 = .ok (.iload 4, 2) := by decide +kernel
theorem dX9_ringAt_108 : decode cX9_ringAt 108 = .ok (.ireturn, 1) := by decide +kernel
theorem k_X9_ringAt : cardV yX9_ringAt (Cond.code yX9_ringAt cX9_ringAt 6 (some .int)) 3 := ⟨⟨qi_X9_ringAt, qv_X9_ringAt⟩, qc_X9_ringAt, qn_X9, by decide +kernel, by decide +kernel, by decide +kernel⟩
set_option maxHeartbeats 4000000 in
set_option maxRecDepth 100000 in
theorem c_X9_ringAt (l : Launch) (D : va_G) (g : Nat → ClassId) (q_this q_houses q_halls q_posts q_blocks q_kinds q_houses_cells q_houses_froms q_houses_tos q_houses_rings q_houses_pranks q_halls_rows q_halls_firsts q_halls_lasts q_posts_cells q_posts_tolds : Nat) (p1 p2 p3 : Int32) (f_hour : Int32) (f_day : Int32) (f_prankHouse : Int32) (f_bells : Int32) (f_echoes : Int32) (f_bellPranks : Int32) (f_houses_size : Int32) (a_houses_cells : Nat → Int32) (a_houses_froms : Nat → Int32) (a_houses_tos : Nat → Int32) (a_houses_rings : Nat → Int32) (a_houses_pranks : Nat → Int32) (f_halls_size : Int32) (a_halls_rows : Nat → Int32) (a_halls_firsts : Nat → Int32) (a_halls_lasts : Nat → Int32) (f_posts_size : Int32) (a_posts_tolds : Nat → Int32) (a_kinds : Nat → Int32) (o : Int32 × Int32 × Int32 × Int32 × Int32 × (Nat → Int32) × (Nat → Int32) × (Nat → Int32) × (Nat → Int32)) (h : F_X9_ringAt p1 p2 p3 f_hour f_houses_size a_houses_cells a_houses_froms a_houses_tos f_halls_size a_halls_rows a_halls_firsts a_halls_lasts f_posts_size f_prankHouse f_bells f_echoes f_bellPranks a_houses_rings a_houses_pranks a_posts_tolds a_kinds = some o) : MW l yX9_ringAt (Cond.code yX9_ringAt cX9_ringAt 6 (some .int)) { frames := 4, cells := 0, slots := 0, locals := 108 } D g [.ref q_this, .int p1, .int p2, .int p3] [(q_this, .inr (9, [.ref q_houses, .ref q_halls, .ref q_posts, .ref q_blocks, .ref q_kinds, .int f_hour, .int f_day, .int f_prankHouse, .int f_bells, .int f_echoes, .int f_bellPranks])), (q_houses, .inr (3, [.int f_houses_size, .ref q_houses_cells, .ref q_houses_froms, .ref q_houses_tos, .ref q_houses_rings, .ref q_houses_pranks])), (q_houses_cells, .inl (g 0, 10, .inl a_houses_cells)), (q_houses_froms, .inl (g 0, 10, .inl a_houses_froms)), (q_houses_tos, .inl (g 0, 10, .inl a_houses_tos)), (q_houses_rings, .inl (g 0, 10, .inl a_houses_rings)), (q_houses_pranks, .inl (g 0, 10, .inl a_houses_pranks)), (q_halls, .inr (2, [.int f_halls_size, .ref q_halls_rows, .ref q_halls_firsts, .ref q_halls_lasts])), (q_halls_rows, .inl (g 0, 4, .inl a_halls_rows)), (q_halls_firsts, .inl (g 0, 4, .inl a_halls_firsts)), (q_halls_lasts, .inl (g 0, 4, .inl a_halls_lasts)), (q_posts, .inr (6, [.int f_posts_size, .ref q_posts_cells, .ref q_posts_tolds])), (q_posts_tolds, .inl (g 0, 4, .inl a_posts_tolds)), (q_kinds, .inl (g 0, 4, .inl a_kinds))] (some (.int o.1)) [(q_this, .inr (9, [.ref q_houses, .ref q_halls, .ref q_posts, .ref q_blocks, .ref q_kinds, .int f_hour, .int f_day, .int o.2.1, .int o.2.2.1, .int o.2.2.2.1, .int o.2.2.2.2.1])), (q_houses, .inr (3, [.int f_houses_size, .ref q_houses_cells, .ref q_houses_froms, .ref q_houses_tos, .ref q_houses_rings, .ref q_houses_pranks])), (q_houses_cells, .inl (g 0, 10, .inl a_houses_cells)), (q_houses_froms, .inl (g 0, 10, .inl a_houses_froms)), (q_houses_tos, .inl (g 0, 10, .inl a_houses_tos)), (q_houses_rings, .inl (g 0, 10, .inl o.2.2.2.2.2.1)), (q_houses_pranks, .inl (g 0, 10, .inl o.2.2.2.2.2.2.1)), (q_halls, .inr (2, [.int f_halls_size, .ref q_halls_rows, .ref q_halls_firsts, .ref q_halls_lasts])), (q_halls_rows, .inl (g 0, 4, .inl a_halls_rows)), (q_halls_firsts, .inl (g 0, 4, .inl a_halls_firsts)), (q_halls_lasts, .inl (g 0, 4, .inl a_halls_lasts)), (q_posts, .inr (6, [.int f_posts_size, .ref q_posts_cells, .ref q_posts_tolds])), (q_posts_tolds, .inl (g 0, 4, .inl o.2.2.2.2.2.2.2.1)), (q_kinds, .inl (g 0, 4, .inl o.2.2.2.2.2.2.2.2))] := by
  refine z_wr_start (by decide) (Nat.le_of_ble_eq_true rfl) ?_
  intro p e s m args below meth c Q A X hr hQ hA
  refine z_lv (lv' := [(0, .ref q_this), (1, .int p1), (2, .int p2), (3, .int p3)]) rfl ?_
  have H50 : ∀ (n : Nat) (x4 : Int32) (x5 : Int32) (f_prankHouse : Int32) (f_bells : Int32) (f_echoes : Int32) (f_bellPranks : Int32) (a_houses_rings : Nat → Int32) (a_houses_pranks : Nat → Int32) (a_posts_tolds : Nat → Int32) (a_kinds : Nat → Int32), L_X9_ringAt_50 p1 p2 p3 f_hour f_houses_size a_houses_cells a_houses_froms a_houses_tos f_halls_size a_halls_rows a_halls_firsts a_halls_lasts f_posts_size  n x4 x5 f_prankHouse f_bells f_echoes f_bellPranks a_houses_rings a_houses_pranks a_posts_tolds a_kinds = some o → Z p l e { frames := 4, cells := 0, slots := 0, locals := 108 } s m args below meth c Q 6 0 0 (IW D A s [(q_this, .inr (9, [.ref q_houses, .ref q_halls, .ref q_posts, .ref q_blocks, .ref q_kinds, .int f_hour, .int f_day, .int f_prankHouse, .int f_bells, .int f_echoes, .int f_bellPranks])), (q_houses, .inr (3, [.int f_houses_size, .ref q_houses_cells, .ref q_houses_froms, .ref q_houses_tos, .ref q_houses_rings, .ref q_houses_pranks])), (q_houses_cells, .inl (g 0, 10, .inl a_houses_cells)), (q_houses_froms, .inl (g 0, 10, .inl a_houses_froms)), (q_houses_tos, .inl (g 0, 10, .inl a_houses_tos)), (q_houses_rings, .inl (g 0, 10, .inl a_houses_rings)), (q_houses_pranks, .inl (g 0, 10, .inl a_houses_pranks)), (q_halls, .inr (2, [.int f_halls_size, .ref q_halls_rows, .ref q_halls_firsts, .ref q_halls_lasts])), (q_halls_rows, .inl (g 0, 4, .inl a_halls_rows)), (q_halls_firsts, .inl (g 0, 4, .inl a_halls_firsts)), (q_halls_lasts, .inl (g 0, 4, .inl a_halls_lasts)), (q_posts, .inr (6, [.int f_posts_size, .ref q_posts_cells, .ref q_posts_tolds])), (q_posts_tolds, .inl (g 0, 4, .inl a_posts_tolds)), (q_kinds, .inl (g 0, 4, .inl a_kinds))]) 50 [(0, .ref q_this), (1, .int p1), (2, .int p2), (3, .int p3), (4, .int x4), (5, .int x5)] [] := by
    intro n
    induction n with
    | zero => intro x4 x5 f_prankHouse f_bells f_echoes f_bellPranks a_houses_rings a_houses_pranks a_posts_tolds a_kinds h; cases h
    | succ n50 ih50 =>
      intro x4 x5 f_prankHouse f_bells f_echoes f_bellPranks a_houses_rings a_houses_pranks a_posts_tolds a_kinds h
      refine z_iload X 5 dX9_ringAt_50 rfl ?_
      refine z_aload_n X 0 dX9_ringAt_52 rfl rfl ?_
      refine z_get (q0 := 0) (k := 0) (ci := 9) X IW_P iw_X9 rfl qf_X9_X9_houses (by decide) dX9_ringAt_53 rfl rfl ?_
      obtain ⟨o5, e6, h⟩ := bnd_p h
      refine z_rdV (rest := [.int x5]) (q0 := 1) (ci := 3) X IW_P k_X2_size (c_X2_size l D g q_houses q_houses_cells q_houses_froms q_houses_tos q_houses_rings q_houses_pranks f_houses_size o5 e6) ql_X9_X2_size dX9_ringAt_56 [1] rfl rfl rfl rfl rfl rfl ⟨Nat.le_of_ble_eq_true rfl, Nat.le_of_ble_eq_true rfl, rfl, rfl, Nat.le_of_ble_eq_true rfl, Nat.le_of_ble_eq_true rfl⟩ (Nat.le_of_ble_eq_true rfl) ?_
      refine z_icmp_ge X 106 dX9_ringAt_59 (by decide) h (fun _ h => ?_) (fun _ h => ?_)
      · refine z_iload X 4 dX9_ringAt_106 rfl ?_
        cases h
        exact z_iretW X hQ hA hr dX9_ringAt_108
      · refine z_aload_n X 0 dX9_ringAt_62 rfl rfl ?_
        refine z_iload_n X 1 dX9_ringAt_63 rfl rfl ?_
        refine z_iload X 5 dX9_ringAt_64 rfl ?_
        refine z_iload_n X 2 dX9_ringAt_66 rfl rfl ?_
        refine z_iload_n X 3 dX9_ringAt_67 rfl rfl ?_
        obtain ⟨o7, e8, h⟩ := bnd_p h
        refine z_rdV (rest := []) (q0 := 0) (ci := 9) X IW_P k_X9_isHeardAt (c_X9_isHeardAt l D g q_this q_houses q_halls q_posts q_blocks q_kinds q_houses_cells q_houses_froms q_houses_tos q_houses_rings q_houses_pranks q_halls_rows q_halls_firsts q_halls_lasts p1 x5 p2 p3 f_hour f_day f_prankHouse f_bells f_echoes f_bellPranks f_houses_size a_houses_cells f_halls_size a_halls_rows a_halls_firsts a_halls_lasts o7 e8) ql_X9_X9_isHeardAt dX9_ringAt_68 [0, 1, 2, 7, 8, 9, 10] rfl rfl rfl rfl rfl rfl ⟨Nat.le_of_ble_eq_true rfl, Nat.le_of_ble_eq_true rfl, rfl, rfl, Nat.le_of_ble_eq_true rfl, Nat.le_of_ble_eq_true rfl⟩ (Nat.le_of_ble_eq_true rfl) ?_
        refine z_if_eq X 100 dX9_ringAt_71 (by decide) h (fun _ h => ?_) (fun _ h => ?_)
        · refine z_iinc X 5 [(5, .int (x5 + 1)), (0, .ref q_this), (1, .int p1), (2, .int p2), (3, .int p3), (4, .int x4)] dX9_ringAt_100 rfl rfl (by decide) rfl ?_
          refine z_goto X 50 dX9_ringAt_103 (by decide) ?_
          refine z_sub (lv' := [(0, .ref q_this), (1, .int p1), (2, .int p2), (3, .int p3), (4, .int x4), (5, .int (x5 + 1))]) [1, 2, 3, 4, 5, 0] rfl ?_
          exact ih50 x4 (x5 + 1) f_prankHouse f_bells f_echoes f_bellPranks a_houses_rings a_houses_pranks a_posts_tolds a_kinds h
        · refine z_aload_n X 0 dX9_ringAt_74 rfl rfl ?_
          refine z_iload X 5 dX9_ringAt_75 rfl ?_
          refine z_aload_n X 0 dX9_ringAt_77 rfl rfl ?_
          refine z_iload_n X 1 dX9_ringAt_78 rfl rfl ?_
          refine z_iload X 5 dX9_ringAt_79 rfl ?_
          refine z_iload_n X 2 dX9_ringAt_81 rfl rfl ?_
          obtain ⟨o9, e10, h⟩ := bnd_p h
          refine z_rdV (rest := [.int x5, .ref q_this]) (q0 := 0) (ci := 9) X IW_P k_X9_shortsLeft (c_X9_shortsLeft l D g q_this q_houses q_halls q_posts q_blocks q_kinds q_houses_cells q_houses_froms q_houses_tos q_houses_rings q_houses_pranks p1 x5 p2 f_hour f_day f_prankHouse f_bells f_echoes f_bellPranks f_houses_size a_houses_cells o9 e10) ql_X9_X9_shortsLeft dX9_ringAt_82 [0, 1, 2] rfl rfl rfl rfl rfl rfl ⟨Nat.le_of_ble_eq_true rfl, Nat.le_of_ble_eq_true rfl, rfl, rfl, Nat.le_of_ble_eq_true rfl, Nat.le_of_ble_eq_true rfl⟩ (Nat.le_of_ble_eq_true rfl) ?_
          refine z_iload_n X 3 dX9_ringAt_85 rfl rfl ?_
          obtain ⟨o11, e12, h⟩ := bnd_p h
          refine z_wrV (rest := []) (q0 := 0) (ci := 9) (ws' := [(q_this, .inr (9, [.ref q_houses, .ref q_halls, .ref q_posts, .ref q_blocks, .ref q_kinds, .int f_hour, .int f_day, .int f_prankHouse, .int f_bells, .int f_echoes, .int f_bellPranks])), (q_houses, .inr (3, [.int f_houses_size, .ref q_houses_cells, .ref q_houses_froms, .ref q_houses_tos, .ref q_houses_rings, .ref q_houses_pranks])), (q_houses_cells, .inl (g 0, 10, .inl a_houses_cells)), (q_houses_froms, .inl (g 0, 10, .inl a_houses_froms)), (q_houses_tos, .inl (g 0, 10, .inl a_houses_tos)), (q_houses_rings, .inl (g 0, 10, .inl o11.2.1)), (q_houses_pranks, .inl (g 0, 10, .inl o11.2.2.1)), (q_halls, .inr (2, [.int f_halls_size, .ref q_halls_rows, .ref q_halls_firsts, .ref q_halls_lasts])), (q_halls_rows, .inl (g 0, 4, .inl a_halls_rows)), (q_halls_firsts, .inl (g 0, 4, .inl a_halls_firsts)), (q_halls_lasts, .inl (g 0, 4, .inl a_halls_lasts)), (q_posts, .inr (6, [.int f_posts_size, .ref q_posts_cells, .ref q_posts_tolds])), (q_posts_tolds, .inl (g 0, 4, .inl a_posts_tolds)), (q_kinds, .inl (g 0, 4, .inl o11.2.2.2))]) (wr := [(q_houses_cells, .inl (g 0, 10, .inl a_houses_cells)), (q_halls, .inr (2, [.int f_halls_size, .ref q_halls_rows, .ref q_halls_firsts, .ref q_halls_lasts])), (q_halls_rows, .inl (g 0, 4, .inl a_halls_rows)), (q_halls_firsts, .inl (g 0, 4, .inl a_halls_firsts)), (q_halls_lasts, .inl (g 0, 4, .inl a_halls_lasts)), (q_posts, .inr (6, [.int f_posts_size, .ref q_posts_cells, .ref q_posts_tolds])), (q_posts_tolds, .inl (g 0, 4, .inl a_posts_tolds))]) (as := [q_this, q_houses, q_houses_cells, q_houses_froms, q_houses_tos, q_houses_rings, q_houses_pranks, q_halls, q_halls_rows, q_halls_firsts, q_halls_lasts, q_posts, q_posts_tolds, q_kinds]) X k_X9_hearAt (c_X9_hearAt l D g q_this q_houses q_halls q_posts q_blocks q_kinds q_houses_cells q_houses_froms q_houses_tos q_houses_rings q_houses_pranks x5 o9 p3 f_hour f_day f_prankHouse f_bells f_echoes f_bellPranks f_houses_size a_houses_froms a_houses_tos a_houses_rings a_houses_pranks a_kinds o11 e12) ql_X9_X9_hearAt dX9_ringAt_86 [0, 1, 3, 4, 5, 6, 13] [2, 7, 8, 9, 10, 11, 12] ⟨rfl, rfl, rfl, rfl, rfl, rfl, rfl, rfl⟩ rfl rfl rfl rfl rfl ⟨Nat.le_of_ble_eq_true rfl, Nat.le_of_ble_eq_true rfl, rfl, rfl, Nat.le_of_ble_eq_true rfl, Nat.le_of_ble_eq_true rfl⟩ (Nat.le_of_ble_eq_true rfl) ?_
          refine z_pop X dX9_ringAt_89 rfl ?_
          refine z_aload_n X 0 dX9_ringAt_90 rfl rfl ?_
          refine z_dup X dX9_ringAt_91 rfl ?_
          refine z_get (q0 := 0) (k := 9) (ci := 9) X IW_P iw_X9 rfl qf_X9_X9_echoes (by decide) dX9_ringAt_92 rfl rfl ?_
          refine z_iconst X (1 : Int32) dX9_ringAt_95 (by decide) ?_
          refine z_iadd X dX9_ringAt_96 ?_
          refine z_put (q0 := 0) (k := 9) (ci := 9) (ws' := [(q_this, .inr (9, [.ref q_houses, .ref q_halls, .ref q_posts, .ref q_blocks, .ref q_kinds, .int f_hour, .int f_day, .int f_prankHouse, .int f_bells, .int (f_echoes + (1 : Int32)), .int f_bellPranks])), (q_houses, .inr (3, [.int f_houses_size, .ref q_houses_cells, .ref q_houses_froms, .ref q_houses_tos, .ref q_houses_rings, .ref q_houses_pranks])), (q_houses_cells, .inl (g 0, 10, .inl a_houses_cells)), (q_houses_froms, .inl (g 0, 10, .inl a_houses_froms)), (q_houses_tos, .inl (g 0, 10, .inl a_houses_tos)), (q_houses_rings, .inl (g 0, 10, .inl o11.2.1)), (q_houses_pranks, .inl (g 0, 10, .inl o11.2.2.1)), (q_halls, .inr (2, [.int f_halls_size, .ref q_halls_rows, .ref q_halls_firsts, .ref q_halls_lasts])), (q_halls_rows, .inl (g 0, 4, .inl a_halls_rows)), (q_halls_firsts, .inl (g 0, 4, .inl a_halls_firsts)), (q_halls_lasts, .inl (g 0, 4, .inl a_halls_lasts)), (q_posts, .inr (6, [.int f_posts_size, .ref q_posts_cells, .ref q_posts_tolds])), (q_posts_tolds, .inl (g 0, 4, .inl a_posts_tolds)), (q_kinds, .inl (g 0, 4, .inl o11.2.2.2))]) X iw_X9 tyX9_ok nmX9 rfl qf_X9_X9_echoes (by decide) rfl rfl dX9_ringAt_97 rfl rfl rfl (Nat.le_of_ble_eq_true rfl) rfl ?_
          refine z_iinc X 5 [(5, .int (x5 + 1)), (0, .ref q_this), (1, .int p1), (2, .int p2), (3, .int p3), (4, .int x4)] dX9_ringAt_100 rfl rfl (by decide) rfl ?_
          refine z_goto X 50 dX9_ringAt_103 (by decide) ?_
          refine z_sub (lv' := [(0, .ref q_this), (1, .int p1), (2, .int p2), (3, .int p3), (4, .int x4), (5, .int (x5 + 1))]) [1, 2, 3, 4, 5, 0] rfl ?_
          exact ih50 x4 (x5 + 1) f_prankHouse f_bells (f_echoes + (1 : Int32)) f_bellPranks o11.2.1 o11.2.2.1 a_posts_tolds o11.2.2.2 h
  have H47 : ∀ (x4 : Int32) (f_prankHouse : Int32) (f_bells : Int32) (f_echoes : Int32) (f_bellPranks : Int32) (a_houses_rings : Nat → Int32) (a_houses_pranks : Nat → Int32) (a_posts_tolds : Nat → Int32) (a_kinds : Nat → Int32), J_X9_ringAt_47 p1 p2 p3 f_hour f_houses_size a_houses_cells a_houses_froms a_houses_tos f_halls_size a_halls_rows a_halls_firsts a_halls_lasts f_posts_size x4 f_prankHouse f_bells f_echoes f_bellPranks a_houses_rings a_houses_pranks a_posts_tolds a_kinds = some o → Z p l e { frames := 4, cells := 0, slots := 0, locals := 108 } s m args below meth c Q 6 0 0 (IW D A s [(q_this, .inr (9, [.ref q_houses, .ref q_halls, .ref q_posts, .ref q_blocks, .ref q_kinds, .int f_hour, .int f_day, .int f_prankHouse, .int f_bells, .int f_echoes, .int f_bellPranks])), (q_houses, .inr (3, [.int f_houses_size, .ref q_houses_cells, .ref q_houses_froms, .ref q_houses_tos, .ref q_houses_rings, .ref q_houses_pranks])), (q_houses_cells, .inl (g 0, 10, .inl a_houses_cells)), (q_houses_froms, .inl (g 0, 10, .inl a_houses_froms)), (q_houses_tos, .inl (g 0, 10, .inl a_houses_tos)), (q_houses_rings, .inl (g 0, 10, .inl a_houses_rings)), (q_houses_pranks, .inl (g 0, 10, .inl a_houses_pranks)), (q_halls, .inr (2, [.int f_halls_size, .ref q_halls_rows, .ref q_halls_firsts, .ref q_halls_lasts])), (q_halls_rows, .inl (g 0, 4, .inl a_halls_rows)), (q_halls_firsts, .inl (g 0, 4, .inl a_halls_firsts)), (q_halls_lasts, .inl (g 0, 4, .inl a_halls_lasts)), (q_posts, .inr (6, [.int f_posts_size, .ref q_posts_cells, .ref q_posts_tolds])), (q_posts_tolds, .inl (g 0, 4, .inl a_posts_tolds)), (q_kinds, .inl (g 0, 4, .inl a_kinds))]) 47 [(0, .ref q_this), (1, .int p1), (2, .int p2), (3, .int p3), (4, .int x4)] [] := by
    intro x4 f_prankHouse f_bells f_echoes f_bellPranks a_houses_rings a_houses_pranks a_posts_tolds a_kinds h
    refine z_iconst X (0 : Int32) dX9_ringAt_47 (by decide) ?_
    refine z_istore X [(5, .int (0 : Int32)), (0, .ref q_this), (1, .int p1), (2, .int p2), (3, .int p3), (4, .int x4)] dX9_ringAt_48 (by decide) rfl ?_
    refine z_sub (lv' := [(0, .ref q_this), (1, .int p1), (2, .int p2), (3, .int p3), (4, .int x4), (5, .int (0 : Int32))]) [1, 2, 3, 4, 5, 0] rfl ?_
    exact H50 100 x4 (0 : Int32) f_prankHouse f_bells f_echoes f_bellPranks a_houses_rings a_houses_pranks a_posts_tolds a_kinds h
  refine z_aload_n X 0 dX9_ringAt_0 rfl rfl ?_
  refine z_iload_n X 1 dX9_ringAt_1 rfl rfl ?_
  refine z_iload_n X 2 dX9_ringAt_2 rfl rfl ?_
  refine z_iload_n X 3 dX9_ringAt_3 rfl rfl ?_
  obtain ⟨o1, e2, h⟩ := bnd_p h
  refine z_wrV (rest := []) (q0 := 0) (ci := 9) (ws' := [(q_this, .inr (9, [.ref q_houses, .ref q_halls, .ref q_posts, .ref q_blocks, .ref q_kinds, .int f_hour, .int f_day, .int f_prankHouse, .int f_bells, .int f_echoes, .int f_bellPranks])), (q_houses, .inr (3, [.int f_houses_size, .ref q_houses_cells, .ref q_houses_froms, .ref q_houses_tos, .ref q_houses_rings, .ref q_houses_pranks])), (q_houses_cells, .inl (g 0, 10, .inl a_houses_cells)), (q_houses_froms, .inl (g 0, 10, .inl a_houses_froms)), (q_houses_tos, .inl (g 0, 10, .inl a_houses_tos)), (q_houses_rings, .inl (g 0, 10, .inl o1.2.1)), (q_houses_pranks, .inl (g 0, 10, .inl o1.2.2.1)), (q_halls, .inr (2, [.int f_halls_size, .ref q_halls_rows, .ref q_halls_firsts, .ref q_halls_lasts])), (q_halls_rows, .inl (g 0, 4, .inl a_halls_rows)), (q_halls_firsts, .inl (g 0, 4, .inl a_halls_firsts)), (q_halls_lasts, .inl (g 0, 4, .inl a_halls_lasts)), (q_posts, .inr (6, [.int f_posts_size, .ref q_posts_cells, .ref q_posts_tolds])), (q_posts_tolds, .inl (g 0, 4, .inl a_posts_tolds)), (q_kinds, .inl (g 0, 4, .inl o1.2.2.2))]) (wr := [(q_houses_cells, .inl (g 0, 10, .inl a_houses_cells)), (q_halls, .inr (2, [.int f_halls_size, .ref q_halls_rows, .ref q_halls_firsts, .ref q_halls_lasts])), (q_halls_rows, .inl (g 0, 4, .inl a_halls_rows)), (q_halls_firsts, .inl (g 0, 4, .inl a_halls_firsts)), (q_halls_lasts, .inl (g 0, 4, .inl a_halls_lasts)), (q_posts, .inr (6, [.int f_posts_size, .ref q_posts_cells, .ref q_posts_tolds])), (q_posts_tolds, .inl (g 0, 4, .inl a_posts_tolds))]) (as := [q_this, q_houses, q_houses_cells, q_houses_froms, q_houses_tos, q_houses_rings, q_houses_pranks, q_halls, q_halls_rows, q_halls_firsts, q_halls_lasts, q_posts, q_posts_tolds, q_kinds]) X k_X9_hearAt (c_X9_hearAt l D g q_this q_houses q_halls q_posts q_blocks q_kinds q_houses_cells q_houses_froms q_houses_tos q_houses_rings q_houses_pranks p1 p2 p3 f_hour f_day f_prankHouse f_bells f_echoes f_bellPranks f_houses_size a_houses_froms a_houses_tos a_houses_rings a_houses_pranks a_kinds o1 e2) ql_X9_X9_hearAt dX9_ringAt_4 [0, 1, 3, 4, 5, 6, 13] [2, 7, 8, 9, 10, 11, 12] ⟨rfl, rfl, rfl, rfl, rfl, rfl, rfl, rfl⟩ rfl rfl rfl rfl rfl ⟨Nat.le_of_ble_eq_true rfl, Nat.le_of_ble_eq_true rfl, rfl, rfl, Nat.le_of_ble_eq_true rfl, Nat.le_of_ble_eq_true rfl⟩ (Nat.le_of_ble_eq_true rfl) ?_
  refine z_istore X [(4, .int o1.1), (0, .ref q_this), (1, .int p1), (2, .int p2), (3, .int p3)] dX9_ringAt_7 (by decide) rfl ?_
  refine z_aload_n X 1 dX9_ringAt_9 rfl rfl ?_
  refine z_dup X dX9_ringAt_10 rfl ?_
  refine z_get (q0 := 0) (k := 8) (ci := 9) X IW_P iw_X9 rfl qf_X9_X9_bells (by decide) dX9_ringAt_11 rfl rfl ?_
  refine z_iconst X (1 : Int32) dX9_ringAt_14 (by decide) ?_
  refine z_iadd X dX9_ringAt_15 ?_
  refine z_put (q0 := 0) (k := 8) (ci := 9) (ws' := [(q_this, .inr (9, [.ref q_houses, .ref q_halls, .ref q_posts, .ref q_blocks, .ref q_kinds, .int f_hour, .int f_day, .int f_prankHouse, .int (f_bells + (1 : Int32)), .int f_echoes, .int f_bellPranks])), (q_houses, .inr (3, [.int f_houses_size, .ref q_houses_cells, .ref q_houses_froms, .ref q_houses_tos, .ref q_houses_rings, .ref q_houses_pranks])), (q_houses_cells, .inl (g 0, 10, .inl a_houses_cells)), (q_houses_froms, .inl (g 0, 10, .inl a_houses_froms)), (q_houses_tos, .inl (g 0, 10, .inl a_houses_tos)), (q_houses_rings, .inl (g 0, 10, .inl o1.2.1)), (q_houses_pranks, .inl (g 0, 10, .inl o1.2.2.1)), (q_halls, .inr (2, [.int f_halls_size, .ref q_halls_rows, .ref q_halls_firsts, .ref q_halls_lasts])), (q_halls_rows, .inl (g 0, 4, .inl a_halls_rows)), (q_halls_firsts, .inl (g 0, 4, .inl a_halls_firsts)), (q_halls_lasts, .inl (g 0, 4, .inl a_halls_lasts)), (q_posts, .inr (6, [.int f_posts_size, .ref q_posts_cells, .ref q_posts_tolds])), (q_posts_tolds, .inl (g 0, 4, .inl a_posts_tolds)), (q_kinds, .inl (g 0, 4, .inl o1.2.2.2))]) X iw_X9 tyX9_ok nmX9 rfl qf_X9_X9_bells (by decide) rfl rfl dX9_ringAt_16 rfl rfl rfl (Nat.le_of_ble_eq_true rfl) rfl ?_
  refine z_iload X 0 dX9_ringAt_19 rfl ?_
  refine z_iconst X (3 : Int32) dX9_ringAt_21 (by decide) ?_
  refine z_icmp_ne X 47 dX9_ringAt_22 (by decide) h (fun _ h => ?_) (fun _ h => ?_)
  · refine z_aload_n X 1 dX9_ringAt_25 rfl rfl ?_
    refine z_dup X dX9_ringAt_26 rfl ?_
    refine z_get (q0 := 0) (k := 10) (ci := 9) X IW_P iw_X9 rfl qf_X9_X9_bellPranks (by decide) dX9_ringAt_27 rfl rfl ?_
    refine z_iconst X (1 : Int32) dX9_ringAt_30 (by decide) ?_
    refine z_iadd X dX9_ringAt_31 ?_
    refine z_put (q0 := 0) (k := 10) (ci := 9) (ws' := [(q_this, .inr (9, [.ref q_houses, .ref q_halls, .ref q_posts, .ref q_blocks, .ref q_kinds, .int f_hour, .int f_day, .int f_prankHouse, .int (f_bells + (1 : Int32)), .int f_echoes, .int (f_bellPranks + (1 : Int32))])), (q_houses, .inr (3, [.int f_houses_size, .ref q_houses_cells, .ref q_houses_froms, .ref q_houses_tos, .ref q_houses_rings, .ref q_houses_pranks])), (q_houses_cells, .inl (g 0, 10, .inl a_houses_cells)), (q_houses_froms, .inl (g 0, 10, .inl a_houses_froms)), (q_houses_tos, .inl (g 0, 10, .inl a_houses_tos)), (q_houses_rings, .inl (g 0, 10, .inl o1.2.1)), (q_houses_pranks, .inl (g 0, 10, .inl o1.2.2.1)), (q_halls, .inr (2, [.int f_halls_size, .ref q_halls_rows, .ref q_halls_firsts, .ref q_halls_lasts])), (q_halls_rows, .inl (g 0, 4, .inl a_halls_rows)), (q_halls_firsts, .inl (g 0, 4, .inl a_halls_firsts)), (q_halls_lasts, .inl (g 0, 4, .inl a_halls_lasts)), (q_posts, .inr (6, [.int f_posts_size, .ref q_posts_cells, .ref q_posts_tolds])), (q_posts_tolds, .inl (g 0, 4, .inl a_posts_tolds)), (q_kinds, .inl (g 0, 4, .inl o1.2.2.2))]) X iw_X9 tyX9_ok nmX9 rfl qf_X9_X9_bellPranks (by decide) rfl rfl dX9_ringAt_32 rfl rfl rfl (Nat.le_of_ble_eq_true rfl) rfl ?_
    refine z_aload_n X 1 dX9_ringAt_35 rfl rfl ?_
    refine z_iload_n X 2 dX9_ringAt_36 rfl rfl ?_
    refine z_put (q0 := 0) (k := 7) (ci := 9) (ws' := [(q_this, .inr (9, [.ref q_houses, .ref q_halls, .ref q_posts, .ref q_blocks, .ref q_kinds, .int f_hour, .int f_day, .int p1, .int (f_bells + (1 : Int32)), .int f_echoes, .int (f_bellPranks + (1 : Int32))])), (q_houses, .inr (3, [.int f_houses_size, .ref q_houses_cells, .ref q_houses_froms, .ref q_houses_tos, .ref q_houses_rings, .ref q_houses_pranks])), (q_houses_cells, .inl (g 0, 10, .inl a_houses_cells)), (q_houses_froms, .inl (g 0, 10, .inl a_houses_froms)), (q_houses_tos, .inl (g 0, 10, .inl a_houses_tos)), (q_houses_rings, .inl (g 0, 10, .inl o1.2.1)), (q_houses_pranks, .inl (g 0, 10, .inl o1.2.2.1)), (q_halls, .inr (2, [.int f_halls_size, .ref q_halls_rows, .ref q_halls_firsts, .ref q_halls_lasts])), (q_halls_rows, .inl (g 0, 4, .inl a_halls_rows)), (q_halls_firsts, .inl (g 0, 4, .inl a_halls_firsts)), (q_halls_lasts, .inl (g 0, 4, .inl a_halls_lasts)), (q_posts, .inr (6, [.int f_posts_size, .ref q_posts_cells, .ref q_posts_tolds])), (q_posts_tolds, .inl (g 0, 4, .inl a_posts_tolds)), (q_kinds, .inl (g 0, 4, .inl o1.2.2.2))]) X iw_X9 tyX9_ok nmX9 rfl qf_X9_X9_prankHouse (by decide) rfl rfl dX9_ringAt_37 rfl rfl rfl (Nat.le_of_ble_eq_true rfl) rfl ?_
    refine z_aload_n X 1 dX9_ringAt_40 rfl rfl ?_
    refine z_get (q0 := 0) (k := 2) (ci := 9) X IW_P iw_X9 rfl qf_X9_X9_posts (by decide) dX9_ringAt_41 rfl rfl ?_
    obtain ⟨o3, e4, h⟩ := bnd_p h
    refine z_wrV (rest := []) (q0 := 11) (ci := 6) (ws' := [(q_this, .inr (9, [.ref q_houses, .ref q_halls, .ref q_posts, .ref q_blocks, .ref q_kinds, .int f_hour, .int f_day, .int p1, .int (f_bells + (1 : Int32)), .int f_echoes, .int (f_bellPranks + (1 : Int32))])), (q_houses, .inr (3, [.int f_houses_size, .ref q_houses_cells, .ref q_houses_froms, .ref q_houses_tos, .ref q_houses_rings, .ref q_houses_pranks])), (q_houses_cells, .inl (g 0, 10, .inl a_houses_cells)), (q_houses_froms, .inl (g 0, 10, .inl a_houses_froms)), (q_houses_tos, .inl (g 0, 10, .inl a_houses_tos)), (q_houses_rings, .inl (g 0, 10, .inl o1.2.1)), (q_houses_pranks, .inl (g 0, 10, .inl o1.2.2.1)), (q_halls, .inr (2, [.int f_halls_size, .ref q_halls_rows, .ref q_halls_firsts, .ref q_halls_lasts])), (q_halls_rows, .inl (g 0, 4, .inl a_halls_rows)), (q_halls_firsts, .inl (g 0, 4, .inl a_halls_firsts)), (q_halls_lasts, .inl (g 0, 4, .inl a_halls_lasts)), (q_posts, .inr (6, [.int f_posts_size, .ref q_posts_cells, .ref q_posts_tolds])), (q_posts_tolds, .inl (g 0, 4, .inl o3)), (q_kinds, .inl (g 0, 4, .inl o1.2.2.2))]) (wr := [(q_this, .inr (9, [.ref q_houses, .ref q_halls, .ref q_posts, .ref q_blocks, .ref q_kinds, .int f_hour, .int f_day, .int p1, .int (f_bells + (1 : Int32)), .int f_echoes, .int (f_bellPranks + (1 : Int32))])), (q_houses, .inr (3, [.int f_houses_size, .ref q_houses_cells, .ref q_houses_froms, .ref q_houses_tos, .ref q_houses_rings, .ref q_houses_pranks])), (q_houses_cells, .inl (g 0, 10, .inl a_houses_cells)), (q_houses_froms, .inl (g 0, 10, .inl a_houses_froms)), (q_houses_tos, .inl (g 0, 10, .inl a_houses_tos)), (q_houses_rings, .inl (g 0, 10, .inl o1.2.1)), (q_houses_pranks, .inl (g 0, 10, .inl o1.2.2.1)), (q_halls, .inr (2, [.int f_halls_size, .ref q_halls_rows, .ref q_halls_firsts, .ref q_halls_lasts])), (q_halls_rows, .inl (g 0, 4, .inl a_halls_rows)), (q_halls_firsts, .inl (g 0, 4, .inl a_halls_firsts)), (q_halls_lasts, .inl (g 0, 4, .inl a_halls_lasts)), (q_kinds, .inl (g 0, 4, .inl o1.2.2.2))]) (as := [q_this, q_houses, q_houses_cells, q_houses_froms, q_houses_tos, q_houses_rings, q_houses_pranks, q_halls, q_halls_rows, q_halls_firsts, q_halls_lasts, q_posts, q_posts_tolds, q_kinds]) X k_X5_forgetTold (c_X5_forgetTold l D g q_posts q_posts_cells q_posts_tolds f_posts_size a_posts_tolds o3 e4) ql_X9_X5_forgetTold dX9_ringAt_44 [11, 12] [0, 1, 2, 3, 4, 5, 6, 7, 8, 9, 10, 13] ⟨rfl, rfl, rfl, rfl, rfl, rfl, rfl, rfl⟩ rfl rfl rfl rfl rfl ⟨Nat.le_of_ble_eq_true rfl, Nat.le_of_ble_eq_true rfl, rfl, rfl, Nat.le_of_ble_eq_true rfl, Nat.le_of_ble_eq_true rfl⟩ (Nat.le_of_ble_eq_true rfl) ?_
    refine z_sub (lv' := [(0, .ref q_this), (1, .int p1), (2, .int p2), (3, .int p3), (4, .int o1.1)]) [1, 2, 3, 4, 0] rfl ?_
    exact H47 o1.1 p1 (f_bells + (1 : Int32)) f_echoes (f_bellPranks + (1 : Int32)) o1.2.1 o1.2.2.1 o3 o1.2.2.2 h
  · refine z_sub (lv' := [(0, .ref q_this), (1, .int p1), (2, .int p2), (3, .int p3), (4, .int o1.1)]) [1, 2, 3, 4, 0] rfl ?_
    exact H47 o1.1 f_prankHouse (f_bells + (1 : Int32)) f_echoes f_bellPranks o1.2.1 o1.2.2.1 a_posts_tolds o1.2.2.2 h

def L_X9_countHearers_6 (p1 : Int32) (p2 : Int32) (p3 : Int32) (f_houses_size : Int32) (a_houses_cells : Nat → Int32) (f_halls_size : Int32) (a_halls_rows : Nat → Int32) (a_halls_firsts : Nat → Int32) (a_halls_lasts : Nat → Int32) : Nat → Int32 → Int32 → Option (Int32)
  | 0, _, _ => none
  | _n + 1, x4, x5 =>
    bnd (F_X2_size f_houses_size) (fun o1 => brn (o1 ≤ x5) (some (x4)) (bnd (F_X9_isHeardAt p1 x5 p2 p3 a_houses_cells f_halls_size a_halls_rows a_halls_firsts a_halls_lasts) (fun o3 => brn (o3 = 0) (L_X9_countHearers_6 p1 p2 p3 f_houses_size a_houses_cells f_halls_size a_halls_rows a_halls_firsts a_halls_lasts _n x4 (x5 + 1)) (L_X9_countHearers_6 p1 p2 p3 f_houses_size a_houses_cells f_halls_size a_halls_rows a_halls_firsts a_halls_lasts _n (x4 + 1) (x5 + 1)))))

def F_X9_countHearers (p1 : Int32) (p2 : Int32) (p3 : Int32) (f_houses_size : Int32) (a_houses_cells : Nat → Int32) (f_halls_size : Int32) (a_halls_rows : Nat → Int32) (a_halls_firsts : Nat → Int32) (a_halls_lasts : Nat → Int32) : Option (Int32) :=
  L_X9_countHearers_6 p1 p2 p3 f_houses_size a_houses_cells f_halls_size a_halls_rows a_halls_firsts a_halls_lasts 100 (1 : Int32) (0 : Int32)
theorem dX9_countHearers_0 : decode cX9_countHearers 0 = .ok (.iconst 1, 1) := by decide +kernel
theorem dX9_countHearers_1 : decode cX9_countHearers 1 = .ok (.istore 4, 2) := by decide +kernel
theorem dX9_countHearers_3 : decode cX9_countHearers 3 = .ok (.iconst 0, 1) := by decide +kernel
theorem dX9_countHearers_4 : decode cX9_countHearers 4 = .ok (.istore 5, 2) := by decide +kernel
theorem dX9_countHearers_6 : decode cX9_countHearers 6 = .ok (.iload 5, 2) := by decide +kernel
theorem dX9_countHearers_8 : decode cX9_countHearers 8 = .ok (.aload_n 0, 1) := by decide +kernel
theorem dX9_countHearers_9 : decode cX9_countHearers 9 = .ok (.getfield 12, 3) := by decide +kernel
theorem dX9_countHearers_12 : decode cX9_countHearers 12 = .ok (.invokevirtual 164, 3) := by decide +kernel
theorem dX9_countHearers_15 : decode cX9_countHearers 15 = .ok (.if_icmp .ge 24, 3) := by decide +kernel
theorem dX9_countHearers_18 : decode cX9_countHearers 18 = .ok (.aload_n 0, 1) := by decide +kernel
theorem dX9_countHearers_19 : decode cX9_countHearers 19 = .ok (.iload_n 1, 1) := by decide +kernel
theorem dX9_countHearers_20 : decode cX9_countHearers 20 = .ok (.iload 5, 2) := by decide +kernel
theorem dX9_countHearers_22 : decode cX9_countHearers 22 = .ok (.iload_n 2, 1) := by decide +kernel
theorem dX9_countHearers_23 : decode cX9_countHearers 23 = .ok (.iload_n 3, 1) := by decide +kernel
theorem dX9_countHearers_24 : decode cX9_countHearers 24 = .ok (.invokevirtual 168, 3) := by decide +kernel
theorem dX9_countHearers_27 : decode cX9_countHearers 27 = .ok (.ifCond .eq 6, 3) := by decide +kernel
theorem dX9_countHearers_30 : decode cX9_countHearers 30 = .ok (.iinc 4 1, 3) := by decide +kernel
theorem dX9_countHearers_33 : decode cX9_countHearers 33 = .ok (.iinc 5 1, 3) := by decide +kernel
theorem dX9_countHearers_36 : decode cX9_countHearers 36 = .ok (.goto (-30), 3) := by decide +kernel
theorem dX9_countHearers_39 : decode cX9_countHearers 39 = .ok (.iload 4, 2) := by decide +kernel
theorem dX9_countHearers_41 : decode cX9_countHearers 41 = .ok (.ireturn, 1) := by decide +kernel
theorem k_X9_countHearers : cardV yX9_countHearers (Cond.code yX9_countHearers cX9_countHearers 6 (some .int)) 3 := ⟨⟨qi_X9_countHearers, qv_X9_countHearers⟩, qc_X9_countHearers, qn_X9, by decide +kernel, by decide +kernel, by decide +kernel⟩
set_option maxHeartbeats 4000000 in
set_option maxRecDepth 100000 in
theorem c_X9_countHearers (l : Launch) (D : va_G) (g : Nat → ClassId) (q_this q_houses q_halls q_posts q_blocks q_kinds q_houses_cells q_houses_froms q_houses_tos q_houses_rings q_houses_pranks q_halls_rows q_halls_firsts q_halls_lasts : Nat) (p1 p2 p3 : Int32) (f_hour : Int32) (f_day : Int32) (f_prankHouse : Int32) (f_bells : Int32) (f_echoes : Int32) (f_bellPranks : Int32) (f_houses_size : Int32) (a_houses_cells : Nat → Int32) (f_halls_size : Int32) (a_halls_rows : Nat → Int32) (a_halls_firsts : Nat → Int32) (a_halls_lasts : Nat → Int32) (o : Int32) (h : F_X9_countHearers p1 p2 p3 f_houses_size a_houses_cells f_halls_size a_halls_rows a_halls_firsts a_halls_lasts = some o) : MR l yX9_countHearers (Cond.code yX9_countHearers cX9_countHearers 6 (some .int)) { frames := 4, cells := 0, slots := 0, locals := 108 } D g [.ref q_this, .int p1, .int p2, .int p3] [(q_this, .inr (9, [.ref q_houses, .ref q_halls, .ref q_posts, .ref q_blocks, .ref q_kinds, .int f_hour, .int f_day, .int f_prankHouse, .int f_bells, .int f_echoes, .int f_bellPranks])), (q_houses, .inr (3, [.int f_houses_size, .ref q_houses_cells, .ref q_houses_froms, .ref q_houses_tos, .ref q_houses_rings, .ref q_houses_pranks])), (q_houses_cells, .inl (g 0, 10, .inl a_houses_cells)), (q_halls, .inr (2, [.int f_halls_size, .ref q_halls_rows, .ref q_halls_firsts, .ref q_halls_lasts])), (q_halls_rows, .inl (g 0, 4, .inl a_halls_rows)), (q_halls_firsts, .inl (g 0, 4, .inl a_halls_firsts)), (q_halls_lasts, .inl (g 0, 4, .inl a_halls_lasts))] (some (.int o)) := by
  refine z_rd_start (by decide) (Nat.le_of_ble_eq_true rfl) ?_
  intro p e s m args below meth c Q X hr hQ
  refine z_lv (lv' := [(0, .ref q_this), (1, .int p1), (2, .int p2), (3, .int p3)]) rfl ?_
  have H6 : ∀ (n : Nat) (x4 : Int32) (x5 : Int32), L_X9_countHearers_6 p1 p2 p3 f_houses_size a_houses_cells f_halls_size a_halls_rows a_halls_firsts a_halls_lasts  n x4 x5 = some o → Z p l e { frames := 4, cells := 0, slots := 0, locals := 108 } s m args below meth c Q 6 0 0 (IR D [(q_this, .inr (9, [.ref q_houses, .ref q_halls, .ref q_posts, .ref q_blocks, .ref q_kinds, .int f_hour, .int f_day, .int f_prankHouse, .int f_bells, .int f_echoes, .int f_bellPranks])), (q_houses, .inr (3, [.int f_houses_size, .ref q_houses_cells, .ref q_houses_froms, .ref q_houses_tos, .ref q_houses_rings, .ref q_houses_pranks])), (q_houses_cells, .inl (g 0, 10, .inl a_houses_cells)), (q_halls, .inr (2, [.int f_halls_size, .ref q_halls_rows, .ref q_halls_firsts, .ref q_halls_lasts])), (q_halls_rows, .inl (g 0, 4, .inl a_halls_rows)), (q_halls_firsts, .inl (g 0, 4, .inl a_halls_firsts)), (q_halls_lasts, .inl (g 0, 4, .inl a_halls_lasts))] s) 6 [(0, .ref q_this), (1, .int p1), (2, .int p2), (3, .int p3), (4, .int x4), (5, .int x5)] [] := by
    intro n
    induction n with
    | zero => intro x4 x5 h; cases h
    | succ n6 ih6 =>
      intro x4 x5 h
      refine z_iload X 5 dX9_countHearers_6 rfl ?_
      refine z_aload_n X 0 dX9_countHearers_8 rfl rfl ?_
      refine z_get (q0 := 0) (k := 0) (ci := 9) X IR_P iw_X9 rfl qf_X9_X9_houses (by decide) dX9_countHearers_9 rfl rfl ?_
      obtain ⟨o1, e2, h⟩ := bnd_p h
      refine z_rdV (rest := [.int x5]) (q0 := 1) (ci := 3) X IR_P k_X2_size (c_X2_size l D g q_houses q_houses_cells q_houses_froms q_houses_tos q_houses_rings q_houses_pranks f_houses_size o1 e2) ql_X9_X2_size dX9_countHearers_12 [1] rfl rfl rfl rfl rfl rfl ⟨Nat.le_of_ble_eq_true rfl, Nat.le_of_ble_eq_true rfl, rfl, rfl, Nat.le_of_ble_eq_true rfl, Nat.le_of_ble_eq_true rfl⟩ (Nat.le_of_ble_eq_true rfl) ?_
      refine z_icmp_ge X 39 dX9_countHearers_15 (by decide) h (fun _ h => ?_) (fun _ h => ?_)
      · refine z_iload X 4 dX9_countHearers_39 rfl ?_
        exact z_iretR X hQ hr dX9_countHearers_41 h
      · refine z_aload_n X 0 dX9_countHearers_18 rfl rfl ?_
        refine z_iload_n X 1 dX9_countHearers_19 rfl rfl ?_
        refine z_iload X 5 dX9_countHearers_20 rfl ?_
        refine z_iload_n X 2 dX9_countHearers_22 rfl rfl ?_
        refine z_iload_n X 3 dX9_countHearers_23 rfl rfl ?_
        obtain ⟨o3, e4, h⟩ := bnd_p h
        refine z_rdV (rest := []) (q0 := 0) (ci := 9) X IR_P k_X9_isHeardAt (c_X9_isHeardAt l D g q_this q_houses q_halls q_posts q_blocks q_kinds q_houses_cells q_houses_froms q_houses_tos q_houses_rings q_houses_pranks q_halls_rows q_halls_firsts q_halls_lasts p1 x5 p2 p3 f_hour f_day f_prankHouse f_bells f_echoes f_bellPranks f_houses_size a_houses_cells f_halls_size a_halls_rows a_halls_firsts a_halls_lasts o3 e4) ql_X9_X9_isHeardAt dX9_countHearers_24 [0, 1, 2, 3, 4, 5, 6] rfl rfl rfl rfl rfl rfl ⟨Nat.le_of_ble_eq_true rfl, Nat.le_of_ble_eq_true rfl, rfl, rfl, Nat.le_of_ble_eq_true rfl, Nat.le_of_ble_eq_true rfl⟩ (Nat.le_of_ble_eq_true rfl) ?_
        refine z_if_eq X 33 dX9_countHearers_27 (by decide) h (fun _ h => ?_) (fun _ h => ?_)
        · refine z_iinc X 5 [(5, .int (x5 + 1)), (0, .ref q_this), (1, .int p1), (2, .int p2), (3, .int p3), (4, .int x4)] dX9_countHearers_33 rfl rfl (by decide) rfl ?_
          refine z_goto X 6 dX9_countHearers_36 (by decide) ?_
          refine z_sub (lv' := [(0, .ref q_this), (1, .int p1), (2, .int p2), (3, .int p3), (4, .int x4), (5, .int (x5 + 1))]) [1, 2, 3, 4, 5, 0] rfl ?_
          exact ih6 x4 (x5 + 1) h
        · refine z_iinc X 4 [(4, .int (x4 + 1)), (0, .ref q_this), (1, .int p1), (2, .int p2), (3, .int p3), (5, .int x5)] dX9_countHearers_30 rfl rfl (by decide) rfl ?_
          refine z_iinc X 5 [(5, .int (x5 + 1)), (4, .int (x4 + 1)), (0, .ref q_this), (1, .int p1), (2, .int p2), (3, .int p3)] dX9_countHearers_33 rfl rfl (by decide) rfl ?_
          refine z_goto X 6 dX9_countHearers_36 (by decide) ?_
          refine z_sub (lv' := [(0, .ref q_this), (1, .int p1), (2, .int p2), (3, .int p3), (4, .int (x4 + 1)), (5, .int (x5 + 1))]) [2, 3, 4, 5, 1, 0] rfl ?_
          exact ih6 (x4 + 1) (x5 + 1) h
  refine z_iconst X (1 : Int32) dX9_countHearers_0 (by decide) ?_
  refine z_istore X [(4, .int (1 : Int32)), (0, .ref q_this), (1, .int p1), (2, .int p2), (3, .int p3)] dX9_countHearers_1 (by decide) rfl ?_
  refine z_iconst X (0 : Int32) dX9_countHearers_3 (by decide) ?_
  refine z_istore X [(5, .int (0 : Int32)), (4, .int (1 : Int32)), (0, .ref q_this), (1, .int p1), (2, .int p2), (3, .int p3)] dX9_countHearers_4 (by decide) rfl ?_
  refine z_sub (lv' := [(0, .ref q_this), (1, .int p1), (2, .int p2), (3, .int p3), (4, .int (1 : Int32)), (5, .int (0 : Int32))]) [2, 3, 4, 5, 1, 0] rfl ?_
  exact H6 100 (1 : Int32) (0 : Int32) h

def F_X9_countKind (p1 : Int32) (a_kinds : Nat → Int32) : Option (Int32) :=
  bnd (F_X7_at 4 p1 a_kinds) (fun o1 => some (o1))
theorem dX9_countKind_0 : decode cX9_countKind 0 = .ok (.aload_n 0, 1) := by decide +kernel
theorem dX9_countKind_1 : decode cX9_countKind 1 = .ok (.getfield 36, 3) := by decide +kernel
theorem dX9_countKind_4 : decode cX9_countKind 4 = .ok (.iload_n 1, 1) := by decide +kernel
theorem dX9_countKind_5 : decode cX9_countKind 5 = .ok (.invokestatic 131, 3) := by decide +kernel
theorem dX9_countKind_8 : decode cX9_countKind 8 = .ok (.ireturn, 1) := by decide +kernel
theorem k_X9_countKind : cardV yX9_countKind (Cond.code yX9_countKind cX9_countKind 2 (some .int)) 1 := ⟨⟨qi_X9_countKind, qv_X9_countKind⟩, qc_X9_countKind, qn_X9, by decide +kernel, by decide +kernel, by decide +kernel⟩
set_option maxHeartbeats 4000000 in
set_option maxRecDepth 100000 in
theorem c_X9_countKind (l : Launch) (D : va_G) (g : Nat → ClassId) (q_this q_houses q_halls q_posts q_blocks q_kinds : Nat) (p1 : Int32) (f_hour : Int32) (f_day : Int32) (f_prankHouse : Int32) (f_bells : Int32) (f_echoes : Int32) (f_bellPranks : Int32) (a_kinds : Nat → Int32) (o : Int32) (h : F_X9_countKind p1 a_kinds = some o) : MR l yX9_countKind (Cond.code yX9_countKind cX9_countKind 2 (some .int)) { frames := 1, cells := 0, slots := 0, locals := 21 } D g [.ref q_this, .int p1] [(q_this, .inr (9, [.ref q_houses, .ref q_halls, .ref q_posts, .ref q_blocks, .ref q_kinds, .int f_hour, .int f_day, .int f_prankHouse, .int f_bells, .int f_echoes, .int f_bellPranks])), (q_kinds, .inl (g 0, 4, .inl a_kinds))] (some (.int o)) := by
  refine z_rd_start (by decide) (Nat.le_of_ble_eq_true rfl) ?_
  intro p e s m args below meth c Q X hr hQ
  refine z_lv (lv' := [(0, .ref q_this), (1, .int p1)]) rfl ?_
  refine z_aload_n X 0 dX9_countKind_0 rfl rfl ?_
  refine z_get (q0 := 0) (k := 4) (ci := 9) X IR_P iw_X9 rfl qf_X9_X9_kinds (by decide) dX9_countKind_1 rfl rfl ?_
  refine z_iload_n X 1 dX9_countKind_4 rfl rfl ?_
  obtain ⟨o1, e2, h⟩ := bnd_p h
  refine z_rdS (rest := []) X IR_P k_X7_at (c_X7_at l D g q_kinds 4 p1 a_kinds o1 e2) ql_X9_X7_at dX9_countKind_5 [1] rfl rfl rfl ⟨Nat.le_of_ble_eq_true rfl, Nat.le_of_ble_eq_true rfl, rfl, rfl, Nat.le_of_ble_eq_true rfl, Nat.le_of_ble_eq_true rfl⟩ (Nat.le_of_ble_eq_true rfl) ?_
  exact z_iretR X hQ hr dX9_countKind_8 h

def F_X5_on (p1 : Int32) (f_size : Int32) (a_cells : Nat → Int32) : Option (Int32) :=
  bnd (F_X7_placeOf 4 f_size p1 a_cells) (fun o1 => some (o1))
theorem dX5_on_0 : decode cX5_on 0 = .ok (.aload_n 0, 1) := by decide +kernel
theorem dX5_on_1 : decode cX5_on 1 = .ok (.getfield 9, 3) := by decide +kernel
theorem dX5_on_4 : decode cX5_on 4 = .ok (.aload_n 0, 1) := by decide +kernel
theorem dX5_on_5 : decode cX5_on 5 = .ok (.getfield 18, 3) := by decide +kernel
theorem dX5_on_8 : decode cX5_on 8 = .ok (.iload_n 1, 1) := by decide +kernel
theorem dX5_on_9 : decode cX5_on 9 = .ok (.invokestatic 22, 3) := by decide +kernel
theorem dX5_on_12 : decode cX5_on 12 = .ok (.ireturn, 1) := by decide +kernel
theorem k_X5_on : cardV yX5_on (Cond.code yX5_on cX5_on 2 (some .int)) 1 := ⟨⟨qi_X5_on, qv_X5_on⟩, qc_X5_on, qn_X5, by decide +kernel, by decide +kernel, by decide +kernel⟩
set_option maxHeartbeats 4000000 in
set_option maxRecDepth 100000 in
theorem c_X5_on (l : Launch) (D : va_G) (g : Nat → ClassId) (q_this q_cells q_tolds : Nat) (p1 : Int32) (f_size : Int32) (a_cells : Nat → Int32) (o : Int32) (h : F_X5_on p1 f_size a_cells = some o) : MR l yX5_on (Cond.code yX5_on cX5_on 2 (some .int)) { frames := 1, cells := 0, slots := 0, locals := 23 } D g [.ref q_this, .int p1] [(q_this, .inr (6, [.int f_size, .ref q_cells, .ref q_tolds])), (q_cells, .inl (g 0, 4, .inl a_cells))] (some (.int o)) := by
  refine z_rd_start (by decide) (Nat.le_of_ble_eq_true rfl) ?_
  intro p e s m args below meth c Q X hr hQ
  refine z_lv (lv' := [(0, .ref q_this), (1, .int p1)]) rfl ?_
  refine z_aload_n X 0 dX5_on_0 rfl rfl ?_
  refine z_get (q0 := 0) (k := 1) (ci := 6) X IR_P iw_X5 rfl qf_X5_X5_cells (by decide) dX5_on_1 rfl rfl ?_
  refine z_aload_n X 0 dX5_on_4 rfl rfl ?_
  refine z_get (q0 := 0) (k := 0) (ci := 6) X IR_P iw_X5 rfl qf_X5_X5_size (by decide) dX5_on_5 rfl rfl ?_
  refine z_iload_n X 1 dX5_on_8 rfl rfl ?_
  obtain ⟨o1, e2, h⟩ := bnd_p h
  refine z_rdS (rest := []) X IR_P k_X7_placeOf (c_X7_placeOf l D g q_cells 4 f_size p1 a_cells o1 e2) ql_X5_X7_placeOf dX5_on_9 [1] rfl rfl rfl ⟨Nat.le_of_ble_eq_true rfl, Nat.le_of_ble_eq_true rfl, rfl, rfl, Nat.le_of_ble_eq_true rfl, Nat.le_of_ble_eq_true rfl⟩ (Nat.le_of_ble_eq_true rfl) ?_
  exact z_iretR X hQ hr dX5_on_12 h

def F_X5_isFull (f_size : Int32) : Option (Int32) :=
  brn (f_size < (4 : Int32)) (some ((0 : Int32))) (some ((1 : Int32)))
theorem dX5_isFull_0 : decode cX5_isFull 0 = .ok (.aload_n 0, 1) := by decide +kernel
theorem dX5_isFull_1 : decode cX5_isFull 1 = .ok (.getfield 18, 3) := by decide +kernel
theorem dX5_isFull_4 : decode cX5_isFull 4 = .ok (.iconst 4, 1) := by decide +kernel
theorem dX5_isFull_5 : decode cX5_isFull 5 = .ok (.if_icmp .lt 7, 3) := by decide +kernel
theorem dX5_isFull_8 : decode cX5_isFull 8 = .ok (.iconst 1, 1) := by decide +kernel
theorem dX5_isFull_9 : decode cX5_isFull 9 = .ok (.goto 4, 3) := by decide +kernel
theorem dX5_isFull_12 : decode cX5_isFull 12 = .ok (.iconst 0, 1) := by decide +kernel
theorem dX5_isFull_13 : decode cX5_isFull 13 = .ok (.ireturn, 1) := by decide +kernel
theorem k_X5_isFull : cardV yX5_isFull (Cond.code yX5_isFull cX5_isFull 1 (some .boolean)) 0 := ⟨⟨qi_X5_isFull, qv_X5_isFull⟩, qc_X5_isFull, qn_X5, by decide +kernel, by decide +kernel, by decide +kernel⟩
set_option maxHeartbeats 4000000 in
set_option maxRecDepth 100000 in
theorem c_X5_isFull (l : Launch) (D : va_G) (g : Nat → ClassId) (q_this q_cells q_tolds : Nat) (f_size : Int32) (o : Int32) (h : F_X5_isFull f_size = some o) : MR l yX5_isFull (Cond.code yX5_isFull cX5_isFull 1 (some .boolean)) { frames := 0, cells := 0, slots := 0, locals := 0 } D g [.ref q_this] [(q_this, .inr (6, [.int f_size, .ref q_cells, .ref q_tolds]))] (some (.int o)) := by
  refine z_rd_start (by decide) (Nat.le_of_ble_eq_true rfl) ?_
  intro p e s m args below meth c Q X hr hQ
  refine z_lv (lv' := [(0, .ref q_this)]) rfl ?_
  refine z_aload_n X 0 dX5_isFull_0 rfl rfl ?_
  refine z_get (q0 := 0) (k := 0) (ci := 6) X IR_P iw_X5 rfl qf_X5_X5_size (by decide) dX5_isFull_1 rfl rfl ?_
  refine z_iconst X (4 : Int32) dX5_isFull_4 (by decide) ?_
  refine z_icmp_lt X 12 dX5_isFull_5 (by decide) h (fun _ h => ?_) (fun _ h => ?_)
  · refine z_iconst X (0 : Int32) dX5_isFull_12 (by decide) ?_
    exact z_zretR X hQ hr dX5_isFull_13 rfl h
  · refine z_iconst X (1 : Int32) dX5_isFull_8 (by decide) ?_
    refine z_goto X 13 dX5_isFull_9 (by decide) ?_
    exact z_zretR X hQ hr dX5_isFull_13 rfl h

def F_X9_judgePost (p1 : Int32) (f_posts_size : Int32) (a_posts_cells : Nat → Int32) (a_blocks : Nat → Int32) (f_p2_number : Int32) (f_p2_detail : Int32) : Option (Int32 × Int32 × Int32) :=
  bnd (F_X0_isCell p1) (fun o1 => brn (o1 = 0) (some ((2 : Int32), f_p2_number, f_p2_detail)) (bnd (F_X9_isBlocked p1 a_blocks) (fun o3 => brn (o3 = 0) (bnd (F_X5_on p1 f_posts_size a_posts_cells) (fun o5 => brn (o5 = ((-1) : Int32)) (bnd (F_X5_isFull f_posts_size) (fun o7 => brn (o7 = 0) (some ((0 : Int32), f_p2_number, f_p2_detail)) (bnd (F_X6_refuse (1 : Int32) (4 : Int32) f_p2_number f_p2_detail) (fun o9 => some (o9.1, o9.2.1, o9.2.2))))) (bnd (F_X5_on p1 f_posts_size a_posts_cells) (fun o11 => bnd (F_X6_refuse (7 : Int32) o11 f_p2_number f_p2_detail) (fun o13 => some (o13.1, o13.2.1, o13.2.2)))))) (bnd (F_X6_refuse (2 : Int32) p1 f_p2_number f_p2_detail) (fun o15 => some (o15.1, o15.2.1, o15.2.2))))))
theorem dX9_judgePost_0 : decode cX9_judgePost 0 = .ok (.iload_n 1, 1) := by decide +kernel
theorem dX9_judgePost_1 : decode cX9_judgePost 1 = .ok (.invokestatic 73, 3) := by decide +kernel
theorem dX9_judgePost_4 : decode cX9_judgePost 4 = .ok (.ifCond .ne 5, 3) := by decide +kernel
theorem dX9_judgePost_7 : decode cX9_judgePost 7 = .ok (.iconst 2, 1) := by decide +kernel
theorem dX9_judgePost_8 : decode cX9_judgePost 8 = .ok (.ireturn, 1) := by decide +kernel
theorem dX9_judgePost_9 : decode cX9_judgePost 9 = .ok (.aload_n 0, 1) := by decide +kernel
theorem dX9_judgePost_10 : decode cX9_judgePost 10 = .ok (.iload_n 1, 1) := by decide +kernel
theorem dX9_judgePost_11 : decode cX9_judgePost 11 = .ok (.invokevirtual 82, 3) := by decide +kernel
theorem dX9_judgePost_14 : decode cX9_judgePost 14 = .ok (.ifCond .eq 10, 3) := by decide +kernel
theorem dX9_judgePost_17 : decode cX9_judgePost 17 = .ok (.aload_n 2, 1) := by decide +kernel
theorem dX9_judgePost_18 : decode cX9_judgePost 18 = .ok (.iconst 2, 1) := by decide +kernel
theorem dX9_judgePost_19 : decode cX9_judgePost 19 = .ok (.iload_n 1, 1) := by decide +kernel
theorem dX9_judgePost_20 : decode cX9_judgePost 20 = .ok (.invokevirtual 85, 3) := by decide +kernel
theorem dX9_judgePost_23 : decode cX9_judgePost 23 = .ok (.ireturn, 1) := by decide +kernel
theorem dX9_judgePost_24 : decode cX9_judgePost 24 = .ok (.aload_n 0, 1) := by decide +kernel
theorem dX9_judgePost_25 : decode cX9_judgePost 25 = .ok (.getfield 28, 3) := by decide +kernel
theorem dX9_judgePost_28 : decode cX9_judgePost 28 = .ok (.iload_n 1, 1) := by decide +kernel
theorem dX9_judgePost_29 : decode cX9_judgePost 29 = .ok (.invokevirtual 119, 3) := by decide +kernel
theorem dX9_judgePost_32 : decode cX9_judgePost 32 = .ok (.iconst (-1), 1) := by decide +kernel
theorem dX9_judgePost_33 : decode cX9_judgePost 33 = .ok (.if_icmp .eq 18, 3) := by decide +kernel
theorem dX9_judgePost_36 : decode cX9_judgePost 36 = .ok (.aload_n 2, 1) := by decide +kernel
theorem dX9_judgePost_37 : decode cX9_judgePost 37 = .ok (.bipush 7, 2) := by decide +kernel
theorem dX9_judgePost_39 : decode cX9_judgePost 39 = .ok (.aload_n 0, 1) := by decide +kernel
theorem dX9_judgePost_40 : decode cX9_judgePost 40 = .ok (.getfield 28, 3) := by decide +kernel
theorem dX9_judgePost_43 : decode cX9_judgePost 43 = .ok (.iload_n 1, 1) := by decide +kernel
theorem dX9_judgePost_44 : decode cX9_judgePost 44 = .ok (.invokevirtual 119, 3) := by decide +kernel
theorem dX9_judgePost_47 : decode cX9_judgePost 47 = .ok (.invokevirtual 85, 3) := by decide +kernel
theorem dX9_judgePost_50 : decode cX9_judgePost 50 = .ok (.ireturn, 1) := by decide +kernel
theorem dX9_judgePost_51 : decode cX9_judgePost 51 = .ok (.aload_n 0, 1) := by decide +kernel
theorem dX9_judgePost_52 : decode cX9_judgePost 52 = .ok (.getfield 28, 3) := by decide +kernel
theorem dX9_judgePost_55 : decode cX9_judgePost 55 = .ok (.invokevirtual 120, 3) := by decide +kernel
theorem dX9_judgePost_58 : decode cX9_judgePost 58 = .ok (.ifCond .eq 12, 3) := by decide +kernel
theorem dX9_judgePost_61 : decode cX9_judgePost 61 = .ok (.aload_n 2, 1) := by decide +kernel
theorem dX9_judgePost_62 : decode cX9_judgePost 62 = .ok (.iconst 1, 1) := by decide +kernel
theorem dX9_judgePost_63 : decode cX9_judgePost 63 = .ok (.iconst 4, 1) := by decide +kernel
theorem dX9_judgePost_64 : decode cX9_judgePost 64 = .ok (.invokevirtual 85, 3) := by decide +kernel
theorem dX9_judgePost_67 : decode cX9_judgePost 67 = .ok (.goto 4, 3) := by decide +kernel
theorem dX9_judgePost_70 : decode cX9_judgePost 70 = .ok (.iconst 0, 1) := by decide +kernel
theorem dX9_judgePost_71 : decode cX9_judgePost 71 = .ok (.ireturn, 1) := by decide +kernel
theorem k_X9_judgePost : cardV yX9_judgePost (Cond.code yX9_judgePost cX9_judgePost 3 (some .int)) 2 := ⟨⟨qi_X9_judgePost, qv_X9_judgePost⟩, qc_X9_judgePost, qn_X9, by decide +kernel, by decide +kernel, by decide +kernel⟩
set_option maxHeartbeats 4000000 in
set_option maxRecDepth 100000 in
theorem c_X9_judgePost (l : Launch) (D : va_G) (g : Nat → ClassId) (q_this q_houses q_halls q_posts q_blocks q_kinds q_posts_cells q_posts_tolds q_p2 : Nat) (p1 : Int32) (f_hour : Int32) (f_day : Int32) (f_prankHouse : Int32) (f_bells : Int32) (f_echoes : Int32) (f_bellPranks : Int32) (f_posts_size : Int32) (a_posts_cells : Nat → Int32) (a_blocks : Nat → Int32) (f_p2_number : Int32) (f_p2_detail : Int32) (o : Int32 × Int32 × Int32) (h : F_X9_judgePost p1 f_posts_size a_posts_cells a_blocks f_p2_number f_p2_detail = some o) : MW l yX9_judgePost (Cond.code yX9_judgePost cX9_judgePost 3 (some .int)) { frames := 2, cells := 0, slots := 0, locals := 44 } D g [.ref q_this, .int p1, .ref q_p2] [(q_this, .inr (9, [.ref q_houses, .ref q_halls, .ref q_posts, .ref q_blocks, .ref q_kinds, .int f_hour, .int f_day, .int f_prankHouse, .int f_bells, .int f_echoes, .int f_bellPranks])), (q_posts, .inr (6, [.int f_posts_size, .ref q_posts_cells, .ref q_posts_tolds])), (q_posts_cells, .inl (g 0, 4, .inl a_posts_cells)), (q_blocks, .inl (g 0, 64, .inl a_blocks)), (q_p2, .inr (7, [.int f_p2_number, .int f_p2_detail]))] (some (.int o.1)) [(q_this, .inr (9, [.ref q_houses, .ref q_halls, .ref q_posts, .ref q_blocks, .ref q_kinds, .int f_hour, .int f_day, .int f_prankHouse, .int f_bells, .int f_echoes, .int f_bellPranks])), (q_posts, .inr (6, [.int f_posts_size, .ref q_posts_cells, .ref q_posts_tolds])), (q_posts_cells, .inl (g 0, 4, .inl a_posts_cells)), (q_blocks, .inl (g 0, 64, .inl a_blocks)), (q_p2, .inr (7, [.int o.2.1, .int o.2.2]))] := by
  refine z_wr_start (by decide) (Nat.le_of_ble_eq_true rfl) ?_
  intro p e s m args below meth c Q A X hr hQ hA
  refine z_lv (lv' := [(0, .ref q_this), (1, .int p1), (2, .ref q_p2)]) rfl ?_
  refine z_iload_n X 1 dX9_judgePost_0 rfl rfl ?_
  obtain ⟨o1, e2, h⟩ := bnd_p h
  refine z_rdS (rest := []) X IW_P k_X0_isCell (c_X0_isCell l D g p1 o1 e2) ql_X9_X0_isCell dX9_judgePost_1 [] rfl rfl rfl ⟨Nat.le_of_ble_eq_true rfl, Nat.le_of_ble_eq_true rfl, rfl, rfl, Nat.le_of_ble_eq_true rfl, Nat.le_of_ble_eq_true rfl⟩ (Nat.le_of_ble_eq_true rfl) ?_
  refine z_if_ne X 9 dX9_judgePost_4 (by decide) h (fun _ h => ?_) (fun _ h => ?_)
  · refine z_iconst X (2 : Int32) dX9_judgePost_7 (by decide) ?_
    cases h
    exact z_iretW X hQ hA hr dX9_judgePost_8
  · refine z_aload_n X 0 dX9_judgePost_9 rfl rfl ?_
    refine z_iload_n X 1 dX9_judgePost_10 rfl rfl ?_
    obtain ⟨o3, e4, h⟩ := bnd_p h
    refine z_rdV (rest := []) (q0 := 0) (ci := 9) X IW_P k_X9_isBlocked (c_X9_isBlocked l D g q_this q_houses q_halls q_posts q_blocks q_kinds p1 f_hour f_day f_prankHouse f_bells f_echoes f_bellPranks a_blocks o3 e4) ql_X9_X9_isBlocked dX9_judgePost_11 [0, 3] rfl rfl rfl rfl rfl rfl ⟨Nat.le_of_ble_eq_true rfl, Nat.le_of_ble_eq_true rfl, rfl, rfl, Nat.le_of_ble_eq_true rfl, Nat.le_of_ble_eq_true rfl⟩ (Nat.le_of_ble_eq_true rfl) ?_
    refine z_if_eq X 24 dX9_judgePost_14 (by decide) h (fun _ h => ?_) (fun _ h => ?_)
    · refine z_aload_n X 0 dX9_judgePost_24 rfl rfl ?_
      refine z_get (q0 := 0) (k := 2) (ci := 9) X IW_P iw_X9 rfl qf_X9_X9_posts (by decide) dX9_judgePost_25 rfl rfl ?_
      refine z_iload_n X 1 dX9_judgePost_28 rfl rfl ?_
      obtain ⟨o5, e6, h⟩ := bnd_p h
      refine z_rdV (rest := []) (q0 := 1) (ci := 6) X IW_P k_X5_on (c_X5_on l D g q_posts q_posts_cells q_posts_tolds p1 f_posts_size a_posts_cells o5 e6) ql_X9_X5_on dX9_judgePost_29 [1, 2] rfl rfl rfl rfl rfl rfl ⟨Nat.le_of_ble_eq_true rfl, Nat.le_of_ble_eq_true rfl, rfl, rfl, Nat.le_of_ble_eq_true rfl, Nat.le_of_ble_eq_true rfl⟩ (Nat.le_of_ble_eq_true rfl) ?_
      refine z_iconst X ((-1) : Int32) dX9_judgePost_32 (by decide) ?_
      refine z_icmp_eq X 51 dX9_judgePost_33 (by decide) h (fun _ h => ?_) (fun _ h => ?_)
      · refine z_aload_n X 0 dX9_judgePost_51 rfl rfl ?_
        refine z_get (q0 := 0) (k := 2) (ci := 9) X IW_P iw_X9 rfl qf_X9_X9_posts (by decide) dX9_judgePost_52 rfl rfl ?_
        obtain ⟨o7, e8, h⟩ := bnd_p h
        refine z_rdV (rest := []) (q0 := 1) (ci := 6) X IW_P k_X5_isFull (c_X5_isFull l D g q_posts q_posts_cells q_posts_tolds f_posts_size o7 e8) ql_X9_X5_isFull dX9_judgePost_55 [1] rfl rfl rfl rfl rfl rfl ⟨Nat.le_of_ble_eq_true rfl, Nat.le_of_ble_eq_true rfl, rfl, rfl, Nat.le_of_ble_eq_true rfl, Nat.le_of_ble_eq_true rfl⟩ (Nat.le_of_ble_eq_true rfl) ?_
        refine z_if_eq X 70 dX9_judgePost_58 (by decide) h (fun _ h => ?_) (fun _ h => ?_)
        · refine z_iconst X (0 : Int32) dX9_judgePost_70 (by decide) ?_
          cases h
          exact z_iretW X hQ hA hr dX9_judgePost_71
        · refine z_aload_n X 2 dX9_judgePost_61 rfl rfl ?_
          refine z_iconst X (1 : Int32) dX9_judgePost_62 (by decide) ?_
          refine z_iconst X (4 : Int32) dX9_judgePost_63 (by decide) ?_
          obtain ⟨o9, e10, h⟩ := bnd_p h
          refine z_wrV (rest := []) (q0 := 4) (ci := 7) (ws' := [(q_this, .inr (9, [.ref q_houses, .ref q_halls, .ref q_posts, .ref q_blocks, .ref q_kinds, .int f_hour, .int f_day, .int f_prankHouse, .int f_bells, .int f_echoes, .int f_bellPranks])), (q_posts, .inr (6, [.int f_posts_size, .ref q_posts_cells, .ref q_posts_tolds])), (q_posts_cells, .inl (g 0, 4, .inl a_posts_cells)), (q_blocks, .inl (g 0, 64, .inl a_blocks)), (q_p2, .inr (7, [.int o9.2.1, .int o9.2.2]))]) (wr := [(q_this, .inr (9, [.ref q_houses, .ref q_halls, .ref q_posts, .ref q_blocks, .ref q_kinds, .int f_hour, .int f_day, .int f_prankHouse, .int f_bells, .int f_echoes, .int f_bellPranks])), (q_posts, .inr (6, [.int f_posts_size, .ref q_posts_cells, .ref q_posts_tolds])), (q_posts_cells, .inl (g 0, 4, .inl a_posts_cells)), (q_blocks, .inl (g 0, 64, .inl a_blocks))]) (as := [q_this, q_posts, q_posts_cells, q_blocks, q_p2]) X k_X6_refuse (c_X6_refuse l D g q_p2 (1 : Int32) (4 : Int32) f_p2_number f_p2_detail o9 e10) ql_X9_X6_refuse dX9_judgePost_64 [4] [0, 1, 2, 3] ⟨rfl, rfl, rfl, rfl, rfl, rfl, rfl, rfl⟩ rfl rfl rfl rfl rfl ⟨Nat.le_of_ble_eq_true rfl, Nat.le_of_ble_eq_true rfl, rfl, rfl, Nat.le_of_ble_eq_true rfl, Nat.le_of_ble_eq_true rfl⟩ (Nat.le_of_ble_eq_true rfl) ?_
          refine z_goto X 71 dX9_judgePost_67 (by decide) ?_
          cases h
          exact z_iretW X hQ hA hr dX9_judgePost_71
      · refine z_aload_n X 2 dX9_judgePost_36 rfl rfl ?_
        refine z_bipush X (7 : Int32) dX9_judgePost_37 (by decide) ?_
        refine z_aload_n X 0 dX9_judgePost_39 rfl rfl ?_
        refine z_get (q0 := 0) (k := 2) (ci := 9) X IW_P iw_X9 rfl qf_X9_X9_posts (by decide) dX9_judgePost_40 rfl rfl ?_
        refine z_iload_n X 1 dX9_judgePost_43 rfl rfl ?_
        obtain ⟨o11, e12, h⟩ := bnd_p h
        refine z_rdV (rest := [.int (7 : Int32), .ref q_p2]) (q0 := 1) (ci := 6) X IW_P k_X5_on (c_X5_on l D g q_posts q_posts_cells q_posts_tolds p1 f_posts_size a_posts_cells o11 e12) ql_X9_X5_on dX9_judgePost_44 [1, 2] rfl rfl rfl rfl rfl rfl ⟨Nat.le_of_ble_eq_true rfl, Nat.le_of_ble_eq_true rfl, rfl, rfl, Nat.le_of_ble_eq_true rfl, Nat.le_of_ble_eq_true rfl⟩ (Nat.le_of_ble_eq_true rfl) ?_
        obtain ⟨o13, e14, h⟩ := bnd_p h
        refine z_wrV (rest := []) (q0 := 4) (ci := 7) (ws' := [(q_this, .inr (9, [.ref q_houses, .ref q_halls, .ref q_posts, .ref q_blocks, .ref q_kinds, .int f_hour, .int f_day, .int f_prankHouse, .int f_bells, .int f_echoes, .int f_bellPranks])), (q_posts, .inr (6, [.int f_posts_size, .ref q_posts_cells, .ref q_posts_tolds])), (q_posts_cells, .inl (g 0, 4, .inl a_posts_cells)), (q_blocks, .inl (g 0, 64, .inl a_blocks)), (q_p2, .inr (7, [.int o13.2.1, .int o13.2.2]))]) (wr := [(q_this, .inr (9, [.ref q_houses, .ref q_halls, .ref q_posts, .ref q_blocks, .ref q_kinds, .int f_hour, .int f_day, .int f_prankHouse, .int f_bells, .int f_echoes, .int f_bellPranks])), (q_posts, .inr (6, [.int f_posts_size, .ref q_posts_cells, .ref q_posts_tolds])), (q_posts_cells, .inl (g 0, 4, .inl a_posts_cells)), (q_blocks, .inl (g 0, 64, .inl a_blocks))]) (as := [q_this, q_posts, q_posts_cells, q_blocks, q_p2]) X k_X6_refuse (c_X6_refuse l D g q_p2 (7 : Int32) o11 f_p2_number f_p2_detail o13 e14) ql_X9_X6_refuse dX9_judgePost_47 [4] [0, 1, 2, 3] ⟨rfl, rfl, rfl, rfl, rfl, rfl, rfl, rfl⟩ rfl rfl rfl rfl rfl ⟨Nat.le_of_ble_eq_true rfl, Nat.le_of_ble_eq_true rfl, rfl, rfl, Nat.le_of_ble_eq_true rfl, Nat.le_of_ble_eq_true rfl⟩ (Nat.le_of_ble_eq_true rfl) ?_
        cases h
        exact z_iretW X hQ hA hr dX9_judgePost_50
    · refine z_aload_n X 2 dX9_judgePost_17 rfl rfl ?_
      refine z_iconst X (2 : Int32) dX9_judgePost_18 (by decide) ?_
      refine z_iload_n X 1 dX9_judgePost_19 rfl rfl ?_
      obtain ⟨o15, e16, h⟩ := bnd_p h
      refine z_wrV (rest := []) (q0 := 4) (ci := 7) (ws' := [(q_this, .inr (9, [.ref q_houses, .ref q_halls, .ref q_posts, .ref q_blocks, .ref q_kinds, .int f_hour, .int f_day, .int f_prankHouse, .int f_bells, .int f_echoes, .int f_bellPranks])), (q_posts, .inr (6, [.int f_posts_size, .ref q_posts_cells, .ref q_posts_tolds])), (q_posts_cells, .inl (g 0, 4, .inl a_posts_cells)), (q_blocks, .inl (g 0, 64, .inl a_blocks)), (q_p2, .inr (7, [.int o15.2.1, .int o15.2.2]))]) (wr := [(q_this, .inr (9, [.ref q_houses, .ref q_halls, .ref q_posts, .ref q_blocks, .ref q_kinds, .int f_hour, .int f_day, .int f_prankHouse, .int f_bells, .int f_echoes, .int f_bellPranks])), (q_posts, .inr (6, [.int f_posts_size, .ref q_posts_cells, .ref q_posts_tolds])), (q_posts_cells, .inl (g 0, 4, .inl a_posts_cells)), (q_blocks, .inl (g 0, 64, .inl a_blocks))]) (as := [q_this, q_posts, q_posts_cells, q_blocks, q_p2]) X k_X6_refuse (c_X6_refuse l D g q_p2 (2 : Int32) p1 f_p2_number f_p2_detail o15 e16) ql_X9_X6_refuse dX9_judgePost_20 [4] [0, 1, 2, 3] ⟨rfl, rfl, rfl, rfl, rfl, rfl, rfl, rfl⟩ rfl rfl rfl rfl rfl ⟨Nat.le_of_ble_eq_true rfl, Nat.le_of_ble_eq_true rfl, rfl, rfl, Nat.le_of_ble_eq_true rfl, Nat.le_of_ble_eq_true rfl⟩ (Nat.le_of_ble_eq_true rfl) ?_
      cases h
      exact z_iretW X hQ hA hr dX9_judgePost_23

def F_X5_add (p1 : Int32) (f_size : Int32) (a_cells : Nat → Int32) (a_tolds : Nat → Int32) : Option (Int32 × Int32 × (Nat → Int32) × (Nat → Int32)) :=
  bnd (F_X7_put 4 f_size p1 a_cells) (fun o1 => bnd (F_X7_put 4 f_size ((-1) : Int32) a_tolds) (fun o3 => some (f_size, (f_size + (1 : Int32)), o1, o3)))
theorem dX5_add_0 : decode cX5_add 0 = .ok (.aload_n 0, 1) := by decide +kernel
theorem dX5_add_1 : decode cX5_add 1 = .ok (.getfield 18, 3) := by decide +kernel
theorem dX5_add_4 : decode cX5_add 4 = .ok (.istore_n 2, 1) := by decide +kernel
theorem dX5_add_5 : decode cX5_add 5 = .ok (.aload_n 0, 1) := by decide +kernel
theorem dX5_add_6 : decode cX5_add 6 = .ok (.getfield 9, 3) := by decide +kernel
theorem dX5_add_9 : decode cX5_add 9 = .ok (.iload_n 2, 1) := by decide +kernel
theorem dX5_add_10 : decode cX5_add 10 = .ok (.iload_n 1, 1) := by decide +kernel
theorem dX5_add_11 : decode cX5_add 11 = .ok (.invokestatic 32, 3) := by decide +kernel
theorem dX5_add_14 : decode cX5_add 14 = .ok (.aload_n 0, 1) := by decide +kernel
theorem dX5_add_15 : decode cX5_add 15 = .ok (.getfield 15, 3) := by decide +kernel
theorem dX5_add_18 : decode cX5_add 18 = .ok (.iload_n 2, 1) := by decide +kernel
theorem dX5_add_19 : decode cX5_add 19 = .ok (.iconst (-1), 1) := by decide +kernel
theorem dX5_add_20 : decode cX5_add 20 = .ok (.invokestatic 32, 3) := by decide +kernel
theorem dX5_add_23 : decode cX5_add 23 = .ok (.aload_n 0, 1) := by decide +kernel
theorem dX5_add_24 : decode cX5_add 24 = .ok (.dup, 1) := by decide +kernel
theorem dX5_add_25 : decode cX5_add 25 = .ok (.getfield 18, 3) := by decide +kernel
theorem dX5_add_28 : decode cX5_add 28 = .ok (.iconst 1, 1) := by decide +kernel
theorem dX5_add_29 : decode cX5_add 29 = .ok (.iadd, 1) := by decide +kernel
theorem dX5_add_30 : decode cX5_add 30 = .ok (.putfield 18, 3) := by decide +kernel
theorem dX5_add_33 : decode cX5_add 33 = .ok (.iload_n 2, 1) := by decide +kernel
theorem dX5_add_34 : decode cX5_add 34 = .ok (.ireturn, 1) := by decide +kernel
theorem k_X5_add : cardV yX5_add (Cond.code yX5_add cX5_add 3 (some .int)) 1 := ⟨⟨qi_X5_add, qv_X5_add⟩, qc_X5_add, qn_X5, by decide +kernel, by decide +kernel, by decide +kernel⟩
set_option maxHeartbeats 4000000 in
set_option maxRecDepth 100000 in
theorem c_X5_add (l : Launch) (D : va_G) (g : Nat → ClassId) (q_this q_cells q_tolds : Nat) (p1 : Int32) (f_size : Int32) (a_cells : Nat → Int32) (a_tolds : Nat → Int32) (o : Int32 × Int32 × (Nat → Int32) × (Nat → Int32)) (h : F_X5_add p1 f_size a_cells a_tolds = some o) : MW l yX5_add (Cond.code yX5_add cX5_add 3 (some .int)) { frames := 1, cells := 0, slots := 0, locals := 22 } D g [.ref q_this, .int p1] [(q_this, .inr (6, [.int f_size, .ref q_cells, .ref q_tolds])), (q_cells, .inl (g 0, 4, .inl a_cells)), (q_tolds, .inl (g 0, 4, .inl a_tolds))] (some (.int o.1)) [(q_this, .inr (6, [.int o.2.1, .ref q_cells, .ref q_tolds])), (q_cells, .inl (g 0, 4, .inl o.2.2.1)), (q_tolds, .inl (g 0, 4, .inl o.2.2.2))] := by
  refine z_wr_start (by decide) (Nat.le_of_ble_eq_true rfl) ?_
  intro p e s m args below meth c Q A X hr hQ hA
  refine z_lv (lv' := [(0, .ref q_this), (1, .int p1)]) rfl ?_
  refine z_aload_n X 0 dX5_add_0 rfl rfl ?_
  refine z_get (q0 := 0) (k := 0) (ci := 6) X IW_P iw_X5 rfl qf_X5_X5_size (by decide) dX5_add_1 rfl rfl ?_
  refine z_istore_n X [(2, .int f_size), (0, .ref q_this), (1, .int p1)] dX5_add_4 rfl (by decide) rfl ?_
  refine z_aload_n X 1 dX5_add_5 rfl rfl ?_
  refine z_get (q0 := 0) (k := 1) (ci := 6) X IW_P iw_X5 rfl qf_X5_X5_cells (by decide) dX5_add_6 rfl rfl ?_
  refine z_iload_n X 0 dX5_add_9 rfl rfl ?_
  refine z_iload_n X 2 dX5_add_10 rfl rfl ?_
  obtain ⟨o1, e2, h⟩ := bnd_p h
  refine z_wrS (rest := []) (ws' := [(q_this, .inr (6, [.int f_size, .ref q_cells, .ref q_tolds])), (q_cells, .inl (g 0, 4, .inl o1)), (q_tolds, .inl (g 0, 4, .inl a_tolds))]) (wr := [(q_this, .inr (6, [.int f_size, .ref q_cells, .ref q_tolds])), (q_tolds, .inl (g 0, 4, .inl a_tolds))]) (as := [q_this, q_cells, q_tolds]) X k_X7_put (c_X7_put l D g q_cells 4 f_size p1 a_cells o1 e2) ql_X5_X7_put dX5_add_11 [1] [0, 2] ⟨rfl, rfl, rfl, rfl, rfl, rfl, rfl, rfl⟩ rfl rfl ⟨Nat.le_of_ble_eq_true rfl, Nat.le_of_ble_eq_true rfl, rfl, rfl, Nat.le_of_ble_eq_true rfl, Nat.le_of_ble_eq_true rfl⟩ (Nat.le_of_ble_eq_true rfl) ?_
  refine z_aload_n X 1 dX5_add_14 rfl rfl ?_
  refine z_get (q0 := 0) (k := 2) (ci := 6) X IW_P iw_X5 rfl qf_X5_X5_tolds (by decide) dX5_add_15 rfl rfl ?_
  refine z_iload_n X 0 dX5_add_18 rfl rfl ?_
  refine z_iconst X ((-1) : Int32) dX5_add_19 (by decide) ?_
  obtain ⟨o3, e4, h⟩ := bnd_p h
  refine z_wrS (rest := []) (ws' := [(q_this, .inr (6, [.int f_size, .ref q_cells, .ref q_tolds])), (q_cells, .inl (g 0, 4, .inl o1)), (q_tolds, .inl (g 0, 4, .inl o3))]) (wr := [(q_this, .inr (6, [.int f_size, .ref q_cells, .ref q_tolds])), (q_cells, .inl (g 0, 4, .inl o1))]) (as := [q_this, q_cells, q_tolds]) X k_X7_put (c_X7_put l D g q_tolds 4 f_size ((-1) : Int32) a_tolds o3 e4) ql_X5_X7_put dX5_add_20 [2] [0, 1] ⟨rfl, rfl, rfl, rfl, rfl, rfl, rfl, rfl⟩ rfl rfl ⟨Nat.le_of_ble_eq_true rfl, Nat.le_of_ble_eq_true rfl, rfl, rfl, Nat.le_of_ble_eq_true rfl, Nat.le_of_ble_eq_true rfl⟩ (Nat.le_of_ble_eq_true rfl) ?_
  refine z_aload_n X 1 dX5_add_23 rfl rfl ?_
  refine z_dup X dX5_add_24 rfl ?_
  refine z_get (q0 := 0) (k := 0) (ci := 6) X IW_P iw_X5 rfl qf_X5_X5_size (by decide) dX5_add_25 rfl rfl ?_
  refine z_iconst X (1 : Int32) dX5_add_28 (by decide) ?_
  refine z_iadd X dX5_add_29 ?_
  refine z_put (q0 := 0) (k := 0) (ci := 6) (ws' := [(q_this, .inr (6, [.int (f_size + (1 : Int32)), .ref q_cells, .ref q_tolds])), (q_cells, .inl (g 0, 4, .inl o1)), (q_tolds, .inl (g 0, 4, .inl o3))]) X iw_X5 tyX5_ok nmX5 rfl qf_X5_X5_size (by decide) rfl rfl dX5_add_30 rfl rfl rfl (Nat.le_of_ble_eq_true rfl) rfl ?_
  refine z_iload_n X 0 dX5_add_33 rfl rfl ?_
  cases h
  exact z_iretW X hQ hA hr dX5_add_34

def F_X5_has (p1 : Int32) (f_size : Int32) : Option (Int32) :=
  brn (p1 < 0) (some ((0 : Int32))) (brn (f_size ≤ p1) (some ((0 : Int32))) (some ((1 : Int32))))
theorem dX5_has_0 : decode cX5_has 0 = .ok (.iload_n 1, 1) := by decide +kernel
theorem dX5_has_1 : decode cX5_has 1 = .ok (.ifCond .lt 15, 3) := by decide +kernel
theorem dX5_has_4 : decode cX5_has 4 = .ok (.iload_n 1, 1) := by decide +kernel
theorem dX5_has_5 : decode cX5_has 5 = .ok (.aload_n 0, 1) := by decide +kernel
theorem dX5_has_6 : decode cX5_has 6 = .ok (.getfield 18, 3) := by decide +kernel
theorem dX5_has_9 : decode cX5_has 9 = .ok (.if_icmp .ge 7, 3) := by decide +kernel
theorem dX5_has_12 : decode cX5_has 12 = .ok (.iconst 1, 1) := by decide +kernel
theorem dX5_has_13 : decode cX5_has 13 = .ok (.goto 4, 3) := by decide +kernel
theorem dX5_has_16 : decode cX5_has 16 = .ok (.iconst 0, 1) := by decide +kernel
theorem dX5_has_17 : decode cX5_has 17 = .ok (.ireturn, 1) := by decide +kernel
theorem k_X5_has : cardV yX5_has (Cond.code yX5_has cX5_has 2 (some .boolean)) 1 := ⟨⟨qi_X5_has, qv_X5_has⟩, qc_X5_has, qn_X5, by decide +kernel, by decide +kernel, by decide +kernel⟩
set_option maxHeartbeats 4000000 in
set_option maxRecDepth 100000 in
theorem c_X5_has (l : Launch) (D : va_G) (g : Nat → ClassId) (q_this q_cells q_tolds : Nat) (p1 : Int32) (f_size : Int32) (o : Int32) (h : F_X5_has p1 f_size = some o) : MR l yX5_has (Cond.code yX5_has cX5_has 2 (some .boolean)) { frames := 0, cells := 0, slots := 0, locals := 0 } D g [.ref q_this, .int p1] [(q_this, .inr (6, [.int f_size, .ref q_cells, .ref q_tolds]))] (some (.int o)) := by
  refine z_rd_start (by decide) (Nat.le_of_ble_eq_true rfl) ?_
  intro p e s m args below meth c Q X hr hQ
  refine z_lv (lv' := [(0, .ref q_this), (1, .int p1)]) rfl ?_
  refine z_iload_n X 1 dX5_has_0 rfl rfl ?_
  refine z_if_lt X 16 dX5_has_1 (by decide) h (fun _ h => ?_) (fun _ h => ?_)
  · refine z_iconst X (0 : Int32) dX5_has_16 (by decide) ?_
    exact z_zretR X hQ hr dX5_has_17 rfl h
  · refine z_iload_n X 1 dX5_has_4 rfl rfl ?_
    refine z_aload_n X 0 dX5_has_5 rfl rfl ?_
    refine z_get (q0 := 0) (k := 0) (ci := 6) X IR_P iw_X5 rfl qf_X5_X5_size (by decide) dX5_has_6 rfl rfl ?_
    refine z_icmp_ge X 16 dX5_has_9 (by decide) h (fun _ h => ?_) (fun _ h => ?_)
    · refine z_iconst X (0 : Int32) dX5_has_16 (by decide) ?_
      exact z_zretR X hQ hr dX5_has_17 rfl h
    · refine z_iconst X (1 : Int32) dX5_has_12 (by decide) ?_
      refine z_goto X 17 dX5_has_13 (by decide) ?_
      exact z_zretR X hQ hr dX5_has_17 rfl h

def F_X5_remove (p1 : Int32) (f_size : Int32) (a_cells : Nat → Int32) (a_tolds : Nat → Int32) : Option (Int32 × Int32 × (Nat → Int32) × (Nat → Int32)) :=
  bnd (F_X7_closeGap 4 p1 a_cells) (fun o1 => bnd (F_X7_closeGap 4 p1 a_tolds) (fun o3 => some ((f_size - (1 : Int32)), (f_size - (1 : Int32)), o1, o3)))
theorem dX5_remove_0 : decode cX5_remove 0 = .ok (.aload_n 0, 1) := by decide +kernel
theorem dX5_remove_1 : decode cX5_remove 1 = .ok (.getfield 9, 3) := by decide +kernel
theorem dX5_remove_4 : decode cX5_remove 4 = .ok (.iload_n 1, 1) := by decide +kernel
theorem dX5_remove_5 : decode cX5_remove 5 = .ok (.invokestatic 36, 3) := by decide +kernel
theorem dX5_remove_8 : decode cX5_remove 8 = .ok (.aload_n 0, 1) := by decide +kernel
theorem dX5_remove_9 : decode cX5_remove 9 = .ok (.getfield 15, 3) := by decide +kernel
theorem dX5_remove_12 : decode cX5_remove 12 = .ok (.iload_n 1, 1) := by decide +kernel
theorem dX5_remove_13 : decode cX5_remove 13 = .ok (.invokestatic 36, 3) := by decide +kernel
theorem dX5_remove_16 : decode cX5_remove 16 = .ok (.aload_n 0, 1) := by decide +kernel
theorem dX5_remove_17 : decode cX5_remove 17 = .ok (.dup, 1) := by decide +kernel
theorem dX5_remove_18 : decode cX5_remove 18 = .ok (.getfield 18, 3) := by decide +kernel
theorem dX5_remove_21 : decode cX5_remove 21 = .ok (.iconst 1, 1) := by decide +kernel
theorem dX5_remove_22 : decode cX5_remove 22 = .ok (.isub, 1) := by decide +kernel
theorem dX5_remove_23 : decode cX5_remove 23 = .ok (.putfield 18, 3) := by decide +kernel
theorem dX5_remove_26 : decode cX5_remove 26 = .ok (.aload_n 0, 1) := by decide +kernel
theorem dX5_remove_27 : decode cX5_remove 27 = .ok (.getfield 18, 3) := by decide +kernel
theorem dX5_remove_30 : decode cX5_remove 30 = .ok (.ireturn, 1) := by decide +kernel
theorem k_X5_remove : cardV yX5_remove (Cond.code yX5_remove cX5_remove 2 (some .int)) 1 := ⟨⟨qi_X5_remove, qv_X5_remove⟩, qc_X5_remove, qn_X5, by decide +kernel, by decide +kernel, by decide +kernel⟩
set_option maxHeartbeats 4000000 in
set_option maxRecDepth 100000 in
theorem c_X5_remove (l : Launch) (D : va_G) (g : Nat → ClassId) (q_this q_cells q_tolds : Nat) (p1 : Int32) (f_size : Int32) (a_cells : Nat → Int32) (a_tolds : Nat → Int32) (o : Int32 × Int32 × (Nat → Int32) × (Nat → Int32)) (h : F_X5_remove p1 f_size a_cells a_tolds = some o) : MW l yX5_remove (Cond.code yX5_remove cX5_remove 2 (some .int)) { frames := 1, cells := 0, slots := 0, locals := 22 } D g [.ref q_this, .int p1] [(q_this, .inr (6, [.int f_size, .ref q_cells, .ref q_tolds])), (q_cells, .inl (g 0, 4, .inl a_cells)), (q_tolds, .inl (g 0, 4, .inl a_tolds))] (some (.int o.1)) [(q_this, .inr (6, [.int o.2.1, .ref q_cells, .ref q_tolds])), (q_cells, .inl (g 0, 4, .inl o.2.2.1)), (q_tolds, .inl (g 0, 4, .inl o.2.2.2))] := by
  refine z_wr_start (by decide) (Nat.le_of_ble_eq_true rfl) ?_
  intro p e s m args below meth c Q A X hr hQ hA
  refine z_lv (lv' := [(0, .ref q_this), (1, .int p1)]) rfl ?_
  refine z_aload_n X 0 dX5_remove_0 rfl rfl ?_
  refine z_get (q0 := 0) (k := 1) (ci := 6) X IW_P iw_X5 rfl qf_X5_X5_cells (by decide) dX5_remove_1 rfl rfl ?_
  refine z_iload_n X 1 dX5_remove_4 rfl rfl ?_
  obtain ⟨o1, e2, h⟩ := bnd_p h
  refine z_wrS (rest := []) (ws' := [(q_this, .inr (6, [.int f_size, .ref q_cells, .ref q_tolds])), (q_cells, .inl (g 0, 4, .inl o1)), (q_tolds, .inl (g 0, 4, .inl a_tolds))]) (wr := [(q_this, .inr (6, [.int f_size, .ref q_cells, .ref q_tolds])), (q_tolds, .inl (g 0, 4, .inl a_tolds))]) (as := [q_this, q_cells, q_tolds]) X k_X7_closeGap (c_X7_closeGap l D g q_cells 4 p1 a_cells o1 e2) ql_X5_X7_closeGap dX5_remove_5 [1] [0, 2] ⟨rfl, rfl, rfl, rfl, rfl, rfl, rfl, rfl⟩ rfl rfl ⟨Nat.le_of_ble_eq_true rfl, Nat.le_of_ble_eq_true rfl, rfl, rfl, Nat.le_of_ble_eq_true rfl, Nat.le_of_ble_eq_true rfl⟩ (Nat.le_of_ble_eq_true rfl) ?_
  refine z_aload_n X 0 dX5_remove_8 rfl rfl ?_
  refine z_get (q0 := 0) (k := 2) (ci := 6) X IW_P iw_X5 rfl qf_X5_X5_tolds (by decide) dX5_remove_9 rfl rfl ?_
  refine z_iload_n X 1 dX5_remove_12 rfl rfl ?_
  obtain ⟨o3, e4, h⟩ := bnd_p h
  refine z_wrS (rest := []) (ws' := [(q_this, .inr (6, [.int f_size, .ref q_cells, .ref q_tolds])), (q_cells, .inl (g 0, 4, .inl o1)), (q_tolds, .inl (g 0, 4, .inl o3))]) (wr := [(q_this, .inr (6, [.int f_size, .ref q_cells, .ref q_tolds])), (q_cells, .inl (g 0, 4, .inl o1))]) (as := [q_this, q_cells, q_tolds]) X k_X7_closeGap (c_X7_closeGap l D g q_tolds 4 p1 a_tolds o3 e4) ql_X5_X7_closeGap dX5_remove_13 [2] [0, 1] ⟨rfl, rfl, rfl, rfl, rfl, rfl, rfl, rfl⟩ rfl rfl ⟨Nat.le_of_ble_eq_true rfl, Nat.le_of_ble_eq_true rfl, rfl, rfl, Nat.le_of_ble_eq_true rfl, Nat.le_of_ble_eq_true rfl⟩ (Nat.le_of_ble_eq_true rfl) ?_
  refine z_aload_n X 0 dX5_remove_16 rfl rfl ?_
  refine z_dup X dX5_remove_17 rfl ?_
  refine z_get (q0 := 0) (k := 0) (ci := 6) X IW_P iw_X5 rfl qf_X5_X5_size (by decide) dX5_remove_18 rfl rfl ?_
  refine z_iconst X (1 : Int32) dX5_remove_21 (by decide) ?_
  refine z_isub X dX5_remove_22 ?_
  refine z_put (q0 := 0) (k := 0) (ci := 6) (ws' := [(q_this, .inr (6, [.int (f_size - (1 : Int32)), .ref q_cells, .ref q_tolds])), (q_cells, .inl (g 0, 4, .inl o1)), (q_tolds, .inl (g 0, 4, .inl o3))]) X iw_X5 tyX5_ok nmX5 rfl qf_X5_X5_size (by decide) rfl rfl dX5_remove_23 rfl rfl rfl (Nat.le_of_ble_eq_true rfl) rfl ?_
  refine z_aload_n X 0 dX5_remove_26 rfl rfl ?_
  refine z_get (q0 := 0) (k := 0) (ci := 6) X IW_P iw_X5 rfl qf_X5_X5_size (by decide) dX5_remove_27 rfl rfl ?_
  cases h
  exact z_iretW X hQ hA hr dX5_remove_30

def F_X9_hasPrank (f_prankHouse : Int32) : Option (Int32) :=
  brn (f_prankHouse = ((-1) : Int32)) (some ((0 : Int32))) (some ((1 : Int32)))
theorem dX9_hasPrank_0 : decode cX9_hasPrank 0 = .ok (.aload_n 0, 1) := by decide +kernel
theorem dX9_hasPrank_1 : decode cX9_hasPrank 1 = .ok (.getfield 46, 3) := by decide +kernel
theorem dX9_hasPrank_4 : decode cX9_hasPrank 4 = .ok (.iconst (-1), 1) := by decide +kernel
theorem dX9_hasPrank_5 : decode cX9_hasPrank 5 = .ok (.if_icmp .eq 7, 3) := by decide +kernel
theorem dX9_hasPrank_8 : decode cX9_hasPrank 8 = .ok (.iconst 1, 1) := by decide +kernel
theorem dX9_hasPrank_9 : decode cX9_hasPrank 9 = .ok (.goto 4, 3) := by decide +kernel
theorem dX9_hasPrank_12 : decode cX9_hasPrank 12 = .ok (.iconst 0, 1) := by decide +kernel
theorem dX9_hasPrank_13 : decode cX9_hasPrank 13 = .ok (.ireturn, 1) := by decide +kernel
theorem k_X9_hasPrank : cardV yX9_hasPrank (Cond.code yX9_hasPrank cX9_hasPrank 1 (some .boolean)) 0 := ⟨⟨qi_X9_hasPrank, qv_X9_hasPrank⟩, qc_X9_hasPrank, qn_X9, by decide +kernel, by decide +kernel, by decide +kernel⟩
set_option maxHeartbeats 4000000 in
set_option maxRecDepth 100000 in
theorem c_X9_hasPrank (l : Launch) (D : va_G) (g : Nat → ClassId) (q_this q_houses q_halls q_posts q_blocks q_kinds : Nat) (f_hour : Int32) (f_day : Int32) (f_prankHouse : Int32) (f_bells : Int32) (f_echoes : Int32) (f_bellPranks : Int32) (o : Int32) (h : F_X9_hasPrank f_prankHouse = some o) : MR l yX9_hasPrank (Cond.code yX9_hasPrank cX9_hasPrank 1 (some .boolean)) { frames := 0, cells := 0, slots := 0, locals := 0 } D g [.ref q_this] [(q_this, .inr (9, [.ref q_houses, .ref q_halls, .ref q_posts, .ref q_blocks, .ref q_kinds, .int f_hour, .int f_day, .int f_prankHouse, .int f_bells, .int f_echoes, .int f_bellPranks]))] (some (.int o)) := by
  refine z_rd_start (by decide) (Nat.le_of_ble_eq_true rfl) ?_
  intro p e s m args below meth c Q X hr hQ
  refine z_lv (lv' := [(0, .ref q_this)]) rfl ?_
  refine z_aload_n X 0 dX9_hasPrank_0 rfl rfl ?_
  refine z_get (q0 := 0) (k := 7) (ci := 9) X IR_P iw_X9 rfl qf_X9_X9_prankHouse (by decide) dX9_hasPrank_1 rfl rfl ?_
  refine z_iconst X ((-1) : Int32) dX9_hasPrank_4 (by decide) ?_
  refine z_icmp_eq X 12 dX9_hasPrank_5 (by decide) h (fun _ h => ?_) (fun _ h => ?_)
  · refine z_iconst X (0 : Int32) dX9_hasPrank_12 (by decide) ?_
    exact z_zretR X hQ hr dX9_hasPrank_13 rfl h
  · refine z_iconst X (1 : Int32) dX9_hasPrank_8 (by decide) ?_
    refine z_goto X 13 dX9_hasPrank_9 (by decide) ?_
    exact z_zretR X hQ hr dX9_hasPrank_13 rfl h

def F_X5_toldAt (p1 : Int32) (a_tolds : Nat → Int32) : Option (Int32) :=
  bnd (F_X7_at 4 p1 a_tolds) (fun o1 => some (o1))
theorem dX5_toldAt_0 : decode cX5_toldAt 0 = .ok (.aload_n 0, 1) := by decide +kernel
theorem dX5_toldAt_1 : decode cX5_toldAt 1 = .ok (.getfield 15, 3) := by decide +kernel
theorem dX5_toldAt_4 : decode cX5_toldAt 4 = .ok (.iload_n 1, 1) := by decide +kernel
theorem dX5_toldAt_5 : decode cX5_toldAt 5 = .ok (.invokestatic 28, 3) := by decide +kernel
theorem dX5_toldAt_8 : decode cX5_toldAt 8 = .ok (.ireturn, 1) := by decide +kernel
theorem k_X5_toldAt : cardV yX5_toldAt (Cond.code yX5_toldAt cX5_toldAt 2 (some .int)) 1 := ⟨⟨qi_X5_toldAt, qv_X5_toldAt⟩, qc_X5_toldAt, qn_X5, by decide +kernel, by decide +kernel, by decide +kernel⟩
set_option maxHeartbeats 4000000 in
set_option maxRecDepth 100000 in
theorem c_X5_toldAt (l : Launch) (D : va_G) (g : Nat → ClassId) (q_this q_cells q_tolds : Nat) (p1 : Int32) (f_size : Int32) (a_tolds : Nat → Int32) (o : Int32) (h : F_X5_toldAt p1 a_tolds = some o) : MR l yX5_toldAt (Cond.code yX5_toldAt cX5_toldAt 2 (some .int)) { frames := 1, cells := 0, slots := 0, locals := 21 } D g [.ref q_this, .int p1] [(q_this, .inr (6, [.int f_size, .ref q_cells, .ref q_tolds])), (q_tolds, .inl (g 0, 4, .inl a_tolds))] (some (.int o)) := by
  refine z_rd_start (by decide) (Nat.le_of_ble_eq_true rfl) ?_
  intro p e s m args below meth c Q X hr hQ
  refine z_lv (lv' := [(0, .ref q_this), (1, .int p1)]) rfl ?_
  refine z_aload_n X 0 dX5_toldAt_0 rfl rfl ?_
  refine z_get (q0 := 0) (k := 2) (ci := 6) X IR_P iw_X5 rfl qf_X5_X5_tolds (by decide) dX5_toldAt_1 rfl rfl ?_
  refine z_iload_n X 1 dX5_toldAt_4 rfl rfl ?_
  obtain ⟨o1, e2, h⟩ := bnd_p h
  refine z_rdS (rest := []) X IR_P k_X7_at (c_X7_at l D g q_tolds 4 p1 a_tolds o1 e2) ql_X5_X7_at dX5_toldAt_5 [1] rfl rfl rfl ⟨Nat.le_of_ble_eq_true rfl, Nat.le_of_ble_eq_true rfl, rfl, rfl, Nat.le_of_ble_eq_true rfl, Nat.le_of_ble_eq_true rfl⟩ (Nat.le_of_ble_eq_true rfl) ?_
  exact z_iretR X hQ hr dX5_toldAt_8 h

def F_X9_judgeTell (p1 : Int32) (p2 : Int32) (f_prankHouse : Int32) (f_posts_size : Int32) (a_posts_tolds : Nat → Int32) (a_kinds : Nat → Int32) (f_p3_number : Int32) (f_p3_detail : Int32) : Option (Int32 × Int32 × Int32) :=
  bnd (F_X5_has p1 f_posts_size) (fun o1 => brn (o1 = 0) (some ((1 : Int32), f_p3_number, f_p3_detail)) (bnd (F_X11_isWithin p2 (0 : Int32) (14 : Int32)) (fun o3 => brn (o3 = 0) (some ((2 : Int32), f_p3_number, f_p3_detail)) (bnd (F_X9_hasPrank f_prankHouse) (fun o5 => brn (o5 = 0) (bnd (F_X9_countKind (3 : Int32) a_kinds) (fun o7 => bnd (F_X6_refuse (5 : Int32) o7 f_p3_number f_p3_detail) (fun o9 => some (o9.1, o9.2.1, o9.2.2)))) (bnd (F_X5_toldAt p1 a_posts_tolds) (fun o11 => brn (o11 = p2) (bnd (F_X6_refuse (6 : Int32) p2 f_p3_number f_p3_detail) (fun o13 => some (o13.1, o13.2.1, o13.2.2))) (some ((0 : Int32), f_p3_number, f_p3_detail)))))))))
theorem dX9_judgeTell_0 : decode cX9_judgeTell 0 = .ok (.aload_n 0, 1) := by decide +kernel
theorem dX9_judgeTell_1 : decode cX9_judgeTell 1 = .ok (.getfield 28, 3) := by decide +kernel
theorem dX9_judgeTell_4 : decode cX9_judgeTell 4 = .ok (.iload_n 1, 1) := by decide +kernel
theorem dX9_judgeTell_5 : decode cX9_judgeTell 5 = .ok (.invokevirtual 121, 3) := by decide +kernel
theorem dX9_judgeTell_8 : decode cX9_judgeTell 8 = .ok (.ifCond .ne 5, 3) := by decide +kernel
theorem dX9_judgeTell_11 : decode cX9_judgeTell 11 = .ok (.iconst 1, 1) := by decide +kernel
theorem dX9_judgeTell_12 : decode cX9_judgeTell 12 = .ok (.ireturn, 1) := by decide +kernel
theorem dX9_judgeTell_13 : decode cX9_judgeTell 13 = .ok (.iload_n 2, 1) := by decide +kernel
theorem dX9_judgeTell_14 : decode cX9_judgeTell 14 = .ok (.iconst 0, 1) := by decide +kernel
theorem dX9_judgeTell_15 : decode cX9_judgeTell 15 = .ok (.bipush 14, 2) := by decide +kernel
theorem dX9_judgeTell_17 : decode cX9_judgeTell 17 = .ok (.invokestatic 109, 3) := by decide +kernel
theorem dX9_judgeTell_20 : decode cX9_judgeTell 20 = .ok (.ifCond .ne 5, 3) := by decide +kernel
theorem dX9_judgeTell_23 : decode cX9_judgeTell 23 = .ok (.iconst 2, 1) := by decide +kernel
theorem dX9_judgeTell_24 : decode cX9_judgeTell 24 = .ok (.ireturn, 1) := by decide +kernel
theorem dX9_judgeTell_25 : decode cX9_judgeTell 25 = .ok (.aload_n 0, 1) := by decide +kernel
theorem dX9_judgeTell_26 : decode cX9_judgeTell 26 = .ok (.invokevirtual 122, 3) := by decide +kernel
theorem dX9_judgeTell_29 : decode cX9_judgeTell 29 = .ok (.ifCond .ne 14, 3) := by decide +kernel
theorem dX9_judgeTell_32 : decode cX9_judgeTell 32 = .ok (.aload_n 3, 1) := by decide +kernel
theorem dX9_judgeTell_33 : decode cX9_judgeTell 33 = .ok (.iconst 5, 1) := by decide +kernel
theorem dX9_judgeTell_34 : decode cX9_judgeTell 34 = .ok (.aload_n 0, 1) := by decide +kernel
theorem dX9_judgeTell_35 : decode cX9_judgeTell 35 = .ok (.iconst 3, 1) := by decide +kernel
theorem dX9_judgeTell_36 : decode cX9_judgeTell 36 = .ok (.invokevirtual 125, 3) := by decide +kernel
theorem dX9_judgeTell_39 : decode cX9_judgeTell 39 = .ok (.invokevirtual 85, 3) := by decide +kernel
theorem dX9_judgeTell_42 : decode cX9_judgeTell 42 = .ok (.ireturn, 1) := by decide +kernel
theorem dX9_judgeTell_43 : decode cX9_judgeTell 43 = .ok (.aload_n 0, 1) := by decide +kernel
theorem dX9_judgeTell_44 : decode cX9_judgeTell 44 = .ok (.getfield 28, 3) := by decide +kernel
theorem dX9_judgeTell_47 : decode cX9_judgeTell 47 = .ok (.iload_n 1, 1) := by decide +kernel
theorem dX9_judgeTell_48 : decode cX9_judgeTell 48 = .ok (.invokevirtual 128, 3) := by decide +kernel
theorem dX9_judgeTell_51 : decode cX9_judgeTell 51 = .ok (.iload_n 2, 1) := by decide +kernel
theorem dX9_judgeTell_52 : decode cX9_judgeTell 52 = .ok (.if_icmp .ne 13, 3) := by decide +kernel
theorem dX9_judgeTell_55 : decode cX9_judgeTell 55 = .ok (.aload_n 3, 1) := by decide +kernel
theorem dX9_judgeTell_56 : decode cX9_judgeTell 56 = .ok (.bipush 6, 2) := by decide +kernel
theorem dX9_judgeTell_58 : decode cX9_judgeTell 58 = .ok (.iload_n 2, 1) := by decide +kernel
theorem dX9_judgeTell_59 : decode cX9_judgeTell 59 = .ok (.invokevirtual 85, 3) := by decide +kernel
theorem dX9_judgeTell_62 : decode cX9_judgeTell 62 = .ok (.goto 4, 3) := by decide +kernel
theorem dX9_judgeTell_65 : decode cX9_judgeTell 65 = .ok (.iconst 0, 1) := by decide +kernel
theorem dX9_judgeTell_66 : decode cX9_judgeTell 66 = .ok (.ireturn, 1) := by decide +kernel
theorem k_X9_judgeTell : cardV yX9_judgeTell (Cond.code yX9_judgeTell cX9_judgeTell 4 (some .int)) 3 := ⟨⟨qi_X9_judgeTell, qv_X9_judgeTell⟩, qc_X9_judgeTell, qn_X9, by decide +kernel, by decide +kernel, by decide +kernel⟩
set_option maxHeartbeats 4000000 in
set_option maxRecDepth 100000 in
theorem c_X9_judgeTell (l : Launch) (D : va_G) (g : Nat → ClassId) (q_this q_houses q_halls q_posts q_blocks q_kinds q_posts_cells q_posts_tolds q_p3 : Nat) (p1 p2 : Int32) (f_hour : Int32) (f_day : Int32) (f_prankHouse : Int32) (f_bells : Int32) (f_echoes : Int32) (f_bellPranks : Int32) (f_posts_size : Int32) (a_posts_tolds : Nat → Int32) (a_kinds : Nat → Int32) (f_p3_number : Int32) (f_p3_detail : Int32) (o : Int32 × Int32 × Int32) (h : F_X9_judgeTell p1 p2 f_prankHouse f_posts_size a_posts_tolds a_kinds f_p3_number f_p3_detail = some o) : MW l yX9_judgeTell (Cond.code yX9_judgeTell cX9_judgeTell 4 (some .int)) { frames := 2, cells := 0, slots := 0, locals := 42 } D g [.ref q_this, .int p1, .int p2, .ref q_p3] [(q_this, .inr (9, [.ref q_houses, .ref q_halls, .ref q_posts, .ref q_blocks, .ref q_kinds, .int f_hour, .int f_day, .int f_prankHouse, .int f_bells, .int f_echoes, .int f_bellPranks])), (q_posts, .inr (6, [.int f_posts_size, .ref q_posts_cells, .ref q_posts_tolds])), (q_posts_tolds, .inl (g 0, 4, .inl a_posts_tolds)), (q_kinds, .inl (g 0, 4, .inl a_kinds)), (q_p3, .inr (7, [.int f_p3_number, .int f_p3_detail]))] (some (.int o.1)) [(q_this, .inr (9, [.ref q_houses, .ref q_halls, .ref q_posts, .ref q_blocks, .ref q_kinds, .int f_hour, .int f_day, .int f_prankHouse, .int f_bells, .int f_echoes, .int f_bellPranks])), (q_posts, .inr (6, [.int f_posts_size, .ref q_posts_cells, .ref q_posts_tolds])), (q_posts_tolds, .inl (g 0, 4, .inl a_posts_tolds)), (q_kinds, .inl (g 0, 4, .inl a_kinds)), (q_p3, .inr (7, [.int o.2.1, .int o.2.2]))] := by
  refine z_wr_start (by decide) (Nat.le_of_ble_eq_true rfl) ?_
  intro p e s m args below meth c Q A X hr hQ hA
  refine z_lv (lv' := [(0, .ref q_this), (1, .int p1), (2, .int p2), (3, .ref q_p3)]) rfl ?_
  refine z_aload_n X 0 dX9_judgeTell_0 rfl rfl ?_
  refine z_get (q0 := 0) (k := 2) (ci := 9) X IW_P iw_X9 rfl qf_X9_X9_posts (by decide) dX9_judgeTell_1 rfl rfl ?_
  refine z_iload_n X 1 dX9_judgeTell_4 rfl rfl ?_
  obtain ⟨o1, e2, h⟩ := bnd_p h
  refine z_rdV (rest := []) (q0 := 1) (ci := 6) X IW_P k_X5_has (c_X5_has l D g q_posts q_posts_cells q_posts_tolds p1 f_posts_size o1 e2) ql_X9_X5_has dX9_judgeTell_5 [1] rfl rfl rfl rfl rfl rfl ⟨Nat.le_of_ble_eq_true rfl, Nat.le_of_ble_eq_true rfl, rfl, rfl, Nat.le_of_ble_eq_true rfl, Nat.le_of_ble_eq_true rfl⟩ (Nat.le_of_ble_eq_true rfl) ?_
  refine z_if_ne X 13 dX9_judgeTell_8 (by decide) h (fun _ h => ?_) (fun _ h => ?_)
  · refine z_iconst X (1 : Int32) dX9_judgeTell_11 (by decide) ?_
    cases h
    exact z_iretW X hQ hA hr dX9_judgeTell_12
  · refine z_iload_n X 2 dX9_judgeTell_13 rfl rfl ?_
    refine z_iconst X (0 : Int32) dX9_judgeTell_14 (by decide) ?_
    refine z_bipush X (14 : Int32) dX9_judgeTell_15 (by decide) ?_
    obtain ⟨o3, e4, h⟩ := bnd_p h
    refine z_rdSN (rest := []) X IW_P k_X11_isWithin (c_X11_isWithin l D g p2 (0 : Int32) (14 : Int32) o3 e4) qlN_X9_X11_isWithin dX9_judgeTell_17 [] rfl rfl rfl ⟨Nat.le_of_ble_eq_true rfl, Nat.le_of_ble_eq_true rfl, rfl, rfl, Nat.le_of_ble_eq_true rfl, Nat.le_of_ble_eq_true rfl⟩ (Nat.le_of_ble_eq_true rfl) ?_
    refine z_if_ne X 25 dX9_judgeTell_20 (by decide) h (fun _ h => ?_) (fun _ h => ?_)
    · refine z_iconst X (2 : Int32) dX9_judgeTell_23 (by decide) ?_
      cases h
      exact z_iretW X hQ hA hr dX9_judgeTell_24
    · refine z_aload_n X 0 dX9_judgeTell_25 rfl rfl ?_
      obtain ⟨o5, e6, h⟩ := bnd_p h
      refine z_rdV (rest := []) (q0 := 0) (ci := 9) X IW_P k_X9_hasPrank (c_X9_hasPrank l D g q_this q_houses q_halls q_posts q_blocks q_kinds f_hour f_day f_prankHouse f_bells f_echoes f_bellPranks o5 e6) ql_X9_X9_hasPrank dX9_judgeTell_26 [0] rfl rfl rfl rfl rfl rfl ⟨Nat.le_of_ble_eq_true rfl, Nat.le_of_ble_eq_true rfl, rfl, rfl, Nat.le_of_ble_eq_true rfl, Nat.le_of_ble_eq_true rfl⟩ (Nat.le_of_ble_eq_true rfl) ?_
      refine z_if_ne X 43 dX9_judgeTell_29 (by decide) h (fun _ h => ?_) (fun _ h => ?_)
      · refine z_aload_n X 3 dX9_judgeTell_32 rfl rfl ?_
        refine z_iconst X (5 : Int32) dX9_judgeTell_33 (by decide) ?_
        refine z_aload_n X 0 dX9_judgeTell_34 rfl rfl ?_
        refine z_iconst X (3 : Int32) dX9_judgeTell_35 (by decide) ?_
        obtain ⟨o7, e8, h⟩ := bnd_p h
        refine z_rdV (rest := [.int (5 : Int32), .ref q_p3]) (q0 := 0) (ci := 9) X IW_P k_X9_countKind (c_X9_countKind l D g q_this q_houses q_halls q_posts q_blocks q_kinds (3 : Int32) f_hour f_day f_prankHouse f_bells f_echoes f_bellPranks a_kinds o7 e8) ql_X9_X9_countKind dX9_judgeTell_36 [0, 3] rfl rfl rfl rfl rfl rfl ⟨Nat.le_of_ble_eq_true rfl, Nat.le_of_ble_eq_true rfl, rfl, rfl, Nat.le_of_ble_eq_true rfl, Nat.le_of_ble_eq_true rfl⟩ (Nat.le_of_ble_eq_true rfl) ?_
        obtain ⟨o9, e10, h⟩ := bnd_p h
        refine z_wrV (rest := []) (q0 := 4) (ci := 7) (ws' := [(q_this, .inr (9, [.ref q_houses, .ref q_halls, .ref q_posts, .ref q_blocks, .ref q_kinds, .int f_hour, .int f_day, .int f_prankHouse, .int f_bells, .int f_echoes, .int f_bellPranks])), (q_posts, .inr (6, [.int f_posts_size, .ref q_posts_cells, .ref q_posts_tolds])), (q_posts_tolds, .inl (g 0, 4, .inl a_posts_tolds)), (q_kinds, .inl (g 0, 4, .inl a_kinds)), (q_p3, .inr (7, [.int o9.2.1, .int o9.2.2]))]) (wr := [(q_this, .inr (9, [.ref q_houses, .ref q_halls, .ref q_posts, .ref q_blocks, .ref q_kinds, .int f_hour, .int f_day, .int f_prankHouse, .int f_bells, .int f_echoes, .int f_bellPranks])), (q_posts, .inr (6, [.int f_posts_size, .ref q_posts_cells, .ref q_posts_tolds])), (q_posts_tolds, .inl (g 0, 4, .inl a_posts_tolds)), (q_kinds, .inl (g 0, 4, .inl a_kinds))]) (as := [q_this, q_posts, q_posts_tolds, q_kinds, q_p3]) X k_X6_refuse (c_X6_refuse l D g q_p3 (5 : Int32) o7 f_p3_number f_p3_detail o9 e10) ql_X9_X6_refuse dX9_judgeTell_39 [4] [0, 1, 2, 3] ⟨rfl, rfl, rfl, rfl, rfl, rfl, rfl, rfl⟩ rfl rfl rfl rfl rfl ⟨Nat.le_of_ble_eq_true rfl, Nat.le_of_ble_eq_true rfl, rfl, rfl, Nat.le_of_ble_eq_true rfl, Nat.le_of_ble_eq_true rfl⟩ (Nat.le_of_ble_eq_true rfl) ?_
        cases h
        exact z_iretW X hQ hA hr dX9_judgeTell_42
      · refine z_aload_n X 0 dX9_judgeTell_43 rfl rfl ?_
        refine z_get (q0 := 0) (k := 2) (ci := 9) X IW_P iw_X9 rfl qf_X9_X9_posts (by decide) dX9_judgeTell_44 rfl rfl ?_
        refine z_iload_n X 1 dX9_judgeTell_47 rfl rfl ?_
        obtain ⟨o11, e12, h⟩ := bnd_p h
        refine z_rdV (rest := []) (q0 := 1) (ci := 6) X IW_P k_X5_toldAt (c_X5_toldAt l D g q_posts q_posts_cells q_posts_tolds p1 f_posts_size a_posts_tolds o11 e12) ql_X9_X5_toldAt dX9_judgeTell_48 [1, 2] rfl rfl rfl rfl rfl rfl ⟨Nat.le_of_ble_eq_true rfl, Nat.le_of_ble_eq_true rfl, rfl, rfl, Nat.le_of_ble_eq_true rfl, Nat.le_of_ble_eq_true rfl⟩ (Nat.le_of_ble_eq_true rfl) ?_
        refine z_iload_n X 2 dX9_judgeTell_51 rfl rfl ?_
        refine z_icmp_ne X 65 dX9_judgeTell_52 (by decide) h (fun _ h => ?_) (fun _ h => ?_)
        · refine z_aload_n X 3 dX9_judgeTell_55 rfl rfl ?_
          refine z_bipush X (6 : Int32) dX9_judgeTell_56 (by decide) ?_
          refine z_iload_n X 2 dX9_judgeTell_58 rfl rfl ?_
          obtain ⟨o13, e14, h⟩ := bnd_p h
          refine z_wrV (rest := []) (q0 := 4) (ci := 7) (ws' := [(q_this, .inr (9, [.ref q_houses, .ref q_halls, .ref q_posts, .ref q_blocks, .ref q_kinds, .int f_hour, .int f_day, .int f_prankHouse, .int f_bells, .int f_echoes, .int f_bellPranks])), (q_posts, .inr (6, [.int f_posts_size, .ref q_posts_cells, .ref q_posts_tolds])), (q_posts_tolds, .inl (g 0, 4, .inl a_posts_tolds)), (q_kinds, .inl (g 0, 4, .inl a_kinds)), (q_p3, .inr (7, [.int o13.2.1, .int o13.2.2]))]) (wr := [(q_this, .inr (9, [.ref q_houses, .ref q_halls, .ref q_posts, .ref q_blocks, .ref q_kinds, .int f_hour, .int f_day, .int f_prankHouse, .int f_bells, .int f_echoes, .int f_bellPranks])), (q_posts, .inr (6, [.int f_posts_size, .ref q_posts_cells, .ref q_posts_tolds])), (q_posts_tolds, .inl (g 0, 4, .inl a_posts_tolds)), (q_kinds, .inl (g 0, 4, .inl a_kinds))]) (as := [q_this, q_posts, q_posts_tolds, q_kinds, q_p3]) X k_X6_refuse (c_X6_refuse l D g q_p3 (6 : Int32) p2 f_p3_number f_p3_detail o13 e14) ql_X9_X6_refuse dX9_judgeTell_59 [4] [0, 1, 2, 3] ⟨rfl, rfl, rfl, rfl, rfl, rfl, rfl, rfl⟩ rfl rfl rfl rfl rfl ⟨Nat.le_of_ble_eq_true rfl, Nat.le_of_ble_eq_true rfl, rfl, rfl, Nat.le_of_ble_eq_true rfl, Nat.le_of_ble_eq_true rfl⟩ (Nat.le_of_ble_eq_true rfl) ?_
          refine z_goto X 66 dX9_judgeTell_62 (by decide) ?_
          cases h
          exact z_iretW X hQ hA hr dX9_judgeTell_66
        · refine z_iconst X (0 : Int32) dX9_judgeTell_65 (by decide) ?_
          cases h
          exact z_iretW X hQ hA hr dX9_judgeTell_66
