def F_X5_setTold (p1 : Int32) (p2 : Int32) (a_tolds : Nat → Int32) : Option ((Nat → Int32)) :=
  bnd (F_X7_put 4 p1 p2 a_tolds) (fun o1 => some (o1))
theorem dX5_setTold_0 : decode cX5_setTold 0 = .ok (.aload_n 0, 1) := by decide +kernel
theorem dX5_setTold_1 : decode cX5_setTold 1 = .ok (.getfield 15, 3) := by decide +kernel
theorem dX5_setTold_4 : decode cX5_setTold 4 = .ok (.iload_n 1, 1) := by decide +kernel
theorem dX5_setTold_5 : decode cX5_setTold 5 = .ok (.iload_n 2, 1) := by decide +kernel
theorem dX5_setTold_6 : decode cX5_setTold 6 = .ok (.invokestatic 32, 3) := by decide +kernel
theorem dX5_setTold_9 : decode cX5_setTold 9 = .ok (.return_, 1) := by decide +kernel
theorem k_X5_setTold : cardV yX5_setTold (Cond.code yX5_setTold cX5_setTold 3 none) 2 := ⟨⟨qi_X5_setTold, qv_X5_setTold⟩, qc_X5_setTold, qn_X5, by decide +kernel, by decide +kernel, by decide +kernel⟩
set_option maxHeartbeats 4000000 in
set_option maxRecDepth 100000 in
theorem c_X5_setTold (l : Launch) (D : va_G) (g : Nat → ClassId) (q_this q_cells q_tolds : Nat) (p1 p2 : Int32) (f_size : Int32) (a_tolds : Nat → Int32) (o : (Nat → Int32)) (h : F_X5_setTold p1 p2 a_tolds = some o) : MW l yX5_setTold (Cond.code yX5_setTold cX5_setTold 3 none) { frames := 1, cells := 0, slots := 0, locals := 22 } D g [.ref q_this, .int p1, .int p2] [(q_this, .inr (6, [.int f_size, .ref q_cells, .ref q_tolds])), (q_tolds, .inl (g 0, 4, .inl a_tolds))] none [(q_this, .inr (6, [.int f_size, .ref q_cells, .ref q_tolds])), (q_tolds, .inl (g 0, 4, .inl o))] := by
  refine z_wr_start (by decide) (Nat.le_of_ble_eq_true rfl) ?_
  intro p e s m args below meth c Q A X hr hQ hA
  refine z_lv (lv' := [(0, .ref q_this), (1, .int p1), (2, .int p2)]) rfl ?_
  refine z_aload_n X 0 dX5_setTold_0 rfl rfl ?_
  refine z_get (q0 := 0) (k := 2) (ci := 6) X IW_P iw_X5 rfl qf_X5_X5_tolds (by decide) dX5_setTold_1 rfl rfl ?_
  refine z_iload_n X 1 dX5_setTold_4 rfl rfl ?_
  refine z_iload_n X 2 dX5_setTold_5 rfl rfl ?_
  obtain ⟨o1, e2, h⟩ := bnd_p h
  refine z_wrS (rest := []) (ws' := [(q_this, .inr (6, [.int f_size, .ref q_cells, .ref q_tolds])), (q_tolds, .inl (g 0, 4, .inl o1))]) (wr := [(q_this, .inr (6, [.int f_size, .ref q_cells, .ref q_tolds]))]) (as := [q_this, q_tolds]) X k_X7_put (c_X7_put l D g q_tolds 4 p1 p2 a_tolds o1 e2) ql_X5_X7_put dX5_setTold_6 [1] [0] ⟨rfl, rfl, rfl, rfl, rfl, rfl, rfl, rfl⟩ rfl rfl ⟨Nat.le_of_ble_eq_true rfl, Nat.le_of_ble_eq_true rfl, rfl, rfl, Nat.le_of_ble_eq_true rfl, Nat.le_of_ble_eq_true rfl⟩ (Nat.le_of_ble_eq_true rfl) ?_
  cases h
  exact z_vretW X hQ hA hr dX5_setTold_9

def F_X5_cellAt (p1 : Int32) (a_cells : Nat → Int32) : Option (Int32) :=
  bnd (F_X7_at 4 p1 a_cells) (fun o1 => some (o1))
theorem dX5_cellAt_0 : decode cX5_cellAt 0 = .ok (.aload_n 0, 1) := by decide +kernel
theorem dX5_cellAt_1 : decode cX5_cellAt 1 = .ok (.getfield 9, 3) := by decide +kernel
theorem dX5_cellAt_4 : decode cX5_cellAt 4 = .ok (.iload_n 1, 1) := by decide +kernel
theorem dX5_cellAt_5 : decode cX5_cellAt 5 = .ok (.invokestatic 28, 3) := by decide +kernel
theorem dX5_cellAt_8 : decode cX5_cellAt 8 = .ok (.ireturn, 1) := by decide +kernel
theorem k_X5_cellAt : cardV yX5_cellAt (Cond.code yX5_cellAt cX5_cellAt 2 (some .int)) 1 := ⟨⟨qi_X5_cellAt, qv_X5_cellAt⟩, qc_X5_cellAt, qn_X5, by decide +kernel, by decide +kernel, by decide +kernel⟩
set_option maxHeartbeats 4000000 in
set_option maxRecDepth 100000 in
theorem c_X5_cellAt (l : Launch) (D : va_G) (g : Nat → ClassId) (q_this q_cells q_tolds : Nat) (p1 : Int32) (f_size : Int32) (a_cells : Nat → Int32) (o : Int32) (h : F_X5_cellAt p1 a_cells = some o) : MR l yX5_cellAt (Cond.code yX5_cellAt cX5_cellAt 2 (some .int)) { frames := 1, cells := 0, slots := 0, locals := 21 } D g [.ref q_this, .int p1] [(q_this, .inr (6, [.int f_size, .ref q_cells, .ref q_tolds])), (q_cells, .inl (g 0, 4, .inl a_cells))] (some (.int o)) := by
  refine z_rd_start (by decide) (Nat.le_of_ble_eq_true rfl) ?_
  intro p e s m args below meth c Q X hr hQ
  refine z_lv (lv' := [(0, .ref q_this), (1, .int p1)]) rfl ?_
  refine z_aload_n X 0 dX5_cellAt_0 rfl rfl ?_
  refine z_get (q0 := 0) (k := 1) (ci := 6) X IR_P iw_X5 rfl qf_X5_X5_cells (by decide) dX5_cellAt_1 rfl rfl ?_
  refine z_iload_n X 1 dX5_cellAt_4 rfl rfl ?_
  obtain ⟨o1, e2, h⟩ := bnd_p h
  refine z_rdS (rest := []) X IR_P k_X7_at (c_X7_at l D g q_cells 4 p1 a_cells o1 e2) ql_X5_X7_at dX5_cellAt_5 [1] rfl rfl rfl ⟨Nat.le_of_ble_eq_true rfl, Nat.le_of_ble_eq_true rfl, rfl, rfl, Nat.le_of_ble_eq_true rfl, Nat.le_of_ble_eq_true rfl⟩ (Nat.le_of_ble_eq_true rfl) ?_
  exact z_iretR X hQ hr dX5_cellAt_8 h

def L_X5_isAgreedOn_2 (p1 : Int32) (f_size : Int32) (a_cells : Nat → Int32) (a_tolds : Nat → Int32) : Nat → Int32 → Option (Int32)
  | 0, _ => none
  | _n + 1, x2 =>
    brn (f_size ≤ x2) (some ((1 : Int32))) (bnd (F_X5_toldAt x2 a_tolds) (fun o1 => brn (o1 = ((-1) : Int32)) (L_X5_isAgreedOn_2 p1 f_size a_cells a_tolds _n (x2 + 1)) (bnd (F_X5_toldAt x2 a_tolds) (fun o3 => bnd (F_X5_cellAt x2 a_cells) (fun o5 => bnd (F_X0_distance o5 p1) (fun o7 => brn (o3 = o7) (L_X5_isAgreedOn_2 p1 f_size a_cells a_tolds _n (x2 + 1)) (some ((0 : Int32)))))))))

def F_X5_isAgreedOn (p1 : Int32) (f_size : Int32) (a_cells : Nat → Int32) (a_tolds : Nat → Int32) : Option (Int32) :=
  L_X5_isAgreedOn_2 p1 f_size a_cells a_tolds 100 (0 : Int32)
theorem dX5_isAgreedOn_0 : decode cX5_isAgreedOn 0 = .ok (.iconst 0, 1) := by decide +kernel
theorem dX5_isAgreedOn_1 : decode cX5_isAgreedOn 1 = .ok (.istore_n 2, 1) := by decide +kernel
theorem dX5_isAgreedOn_2 : decode cX5_isAgreedOn 2 = .ok (.iload_n 2, 1) := by decide +kernel
theorem dX5_isAgreedOn_3 : decode cX5_isAgreedOn 3 = .ok (.aload_n 0, 1) := by decide +kernel
theorem dX5_isAgreedOn_4 : decode cX5_isAgreedOn 4 = .ok (.getfield 18, 3) := by decide +kernel
theorem dX5_isAgreedOn_7 : decode cX5_isAgreedOn 7 = .ok (.if_icmp .ge 37, 3) := by decide +kernel
theorem dX5_isAgreedOn_10 : decode cX5_isAgreedOn 10 = .ok (.aload_n 0, 1) := by decide +kernel
theorem dX5_isAgreedOn_11 : decode cX5_isAgreedOn 11 = .ok (.iload_n 2, 1) := by decide +kernel
theorem dX5_isAgreedOn_12 : decode cX5_isAgreedOn 12 = .ok (.invokevirtual 40, 3) := by decide +kernel
theorem dX5_isAgreedOn_15 : decode cX5_isAgreedOn 15 = .ok (.iconst (-1), 1) := by decide +kernel
theorem dX5_isAgreedOn_16 : decode cX5_isAgreedOn 16 = .ok (.if_icmp .eq 22, 3) := by decide +kernel
theorem dX5_isAgreedOn_19 : decode cX5_isAgreedOn 19 = .ok (.aload_n 0, 1) := by decide +kernel
theorem dX5_isAgreedOn_20 : decode cX5_isAgreedOn 20 = .ok (.iload_n 2, 1) := by decide +kernel
theorem dX5_isAgreedOn_21 : decode cX5_isAgreedOn 21 = .ok (.invokevirtual 40, 3) := by decide +kernel
theorem dX5_isAgreedOn_24 : decode cX5_isAgreedOn 24 = .ok (.aload_n 0, 1) := by decide +kernel
theorem dX5_isAgreedOn_25 : decode cX5_isAgreedOn 25 = .ok (.iload_n 2, 1) := by decide +kernel
theorem dX5_isAgreedOn_26 : decode cX5_isAgreedOn 26 = .ok (.invokevirtual 44, 3) := by decide +kernel
theorem dX5_isAgreedOn_29 : decode cX5_isAgreedOn 29 = .ok (.iload_n 1, 1) := by decide +kernel
theorem dX5_isAgreedOn_30 : decode cX5_isAgreedOn 30 = .ok (.invokestatic 47, 3) := by decide +kernel
theorem dX5_isAgreedOn_33 : decode cX5_isAgreedOn 33 = .ok (.if_icmp .eq 5, 3) := by decide +kernel
theorem dX5_isAgreedOn_36 : decode cX5_isAgreedOn 36 = .ok (.iconst 0, 1) := by decide +kernel
theorem dX5_isAgreedOn_37 : decode cX5_isAgreedOn 37 = .ok (.ireturn, 1) := by decide +kernel
theorem dX5_isAgreedOn_38 : decode cX5_isAgreedOn 38 = .ok (.iinc 2 1, 3) := by decide +kernel
theorem dX5_isAgreedOn_41 : decode cX5_isAgreedOn 41 = .ok (.goto (-39), 3) := by decide +kernel
theorem dX5_isAgreedOn_44 : decode cX5_isAgreedOn 44 = .ok (.iconst 1, 1) := by decide +kernel
theorem dX5_isAgreedOn_45 : decode cX5_isAgreedOn 45 = .ok (.ireturn, 1) := by decide +kernel
theorem k_X5_isAgreedOn : cardV yX5_isAgreedOn (Cond.code yX5_isAgreedOn cX5_isAgreedOn 3 (some .boolean)) 1 := ⟨⟨qi_X5_isAgreedOn, qv_X5_isAgreedOn⟩, qc_X5_isAgreedOn, qn_X5, by decide +kernel, by decide +kernel, by decide +kernel⟩
set_option maxHeartbeats 4000000 in
set_option maxRecDepth 100000 in
theorem c_X5_isAgreedOn (l : Launch) (D : va_G) (g : Nat → ClassId) (q_this q_cells q_tolds : Nat) (p1 : Int32) (f_size : Int32) (a_cells : Nat → Int32) (a_tolds : Nat → Int32) (o : Int32) (h : F_X5_isAgreedOn p1 f_size a_cells a_tolds = some o) : MR l yX5_isAgreedOn (Cond.code yX5_isAgreedOn cX5_isAgreedOn 3 (some .boolean)) { frames := 2, cells := 0, slots := 0, locals := 61 } D g [.ref q_this, .int p1] [(q_this, .inr (6, [.int f_size, .ref q_cells, .ref q_tolds])), (q_cells, .inl (g 0, 4, .inl a_cells)), (q_tolds, .inl (g 0, 4, .inl a_tolds))] (some (.int o)) := by
  refine z_rd_start (by decide) (Nat.le_of_ble_eq_true rfl) ?_
  intro p e s m args below meth c Q X hr hQ
  refine z_lv (lv' := [(0, .ref q_this), (1, .int p1)]) rfl ?_
  have H2 : ∀ (n : Nat) (x2 : Int32), L_X5_isAgreedOn_2 p1 f_size a_cells a_tolds  n x2 = some o → Z p l e { frames := 2, cells := 0, slots := 0, locals := 61 } s m args below meth c Q 3 0 0 (IR D [(q_this, .inr (6, [.int f_size, .ref q_cells, .ref q_tolds])), (q_cells, .inl (g 0, 4, .inl a_cells)), (q_tolds, .inl (g 0, 4, .inl a_tolds))] s) 2 [(0, .ref q_this), (1, .int p1), (2, .int x2)] [] := by
    intro n
    induction n with
    | zero => intro x2 h; cases h
    | succ n2 ih2 =>
      intro x2 h
      refine z_iload_n X 2 dX5_isAgreedOn_2 rfl rfl ?_
      refine z_aload_n X 0 dX5_isAgreedOn_3 rfl rfl ?_
      refine z_get (q0 := 0) (k := 0) (ci := 6) X IR_P iw_X5 rfl qf_X5_X5_size (by decide) dX5_isAgreedOn_4 rfl rfl ?_
      refine z_icmp_ge X 44 dX5_isAgreedOn_7 (by decide) h (fun _ h => ?_) (fun _ h => ?_)
      · refine z_iconst X (1 : Int32) dX5_isAgreedOn_44 (by decide) ?_
        exact z_zretR X hQ hr dX5_isAgreedOn_45 rfl h
      · refine z_aload_n X 0 dX5_isAgreedOn_10 rfl rfl ?_
        refine z_iload_n X 2 dX5_isAgreedOn_11 rfl rfl ?_
        obtain ⟨o1, e2, h⟩ := bnd_p h
        refine z_rdV (rest := []) (q0 := 0) (ci := 6) X IR_P k_X5_toldAt (c_X5_toldAt l D g q_this q_cells q_tolds x2 f_size a_tolds o1 e2) ql_X5_X5_toldAt dX5_isAgreedOn_12 [0, 2] rfl rfl rfl rfl rfl rfl ⟨Nat.le_of_ble_eq_true rfl, Nat.le_of_ble_eq_true rfl, rfl, rfl, Nat.le_of_ble_eq_true rfl, Nat.le_of_ble_eq_true rfl⟩ (Nat.le_of_ble_eq_true rfl) ?_
        refine z_iconst X ((-1) : Int32) dX5_isAgreedOn_15 (by decide) ?_
        refine z_icmp_eq X 38 dX5_isAgreedOn_16 (by decide) h (fun _ h => ?_) (fun _ h => ?_)
        · refine z_iinc X 2 [(2, .int (x2 + 1)), (0, .ref q_this), (1, .int p1)] dX5_isAgreedOn_38 rfl rfl (by decide) rfl ?_
          refine z_goto X 2 dX5_isAgreedOn_41 (by decide) ?_
          refine z_sub (lv' := [(0, .ref q_this), (1, .int p1), (2, .int (x2 + 1))]) [1, 2, 0] rfl ?_
          exact ih2 (x2 + 1) h
        · refine z_aload_n X 0 dX5_isAgreedOn_19 rfl rfl ?_
          refine z_iload_n X 2 dX5_isAgreedOn_20 rfl rfl ?_
          obtain ⟨o3, e4, h⟩ := bnd_p h
          refine z_rdV (rest := []) (q0 := 0) (ci := 6) X IR_P k_X5_toldAt (c_X5_toldAt l D g q_this q_cells q_tolds x2 f_size a_tolds o3 e4) ql_X5_X5_toldAt dX5_isAgreedOn_21 [0, 2] rfl rfl rfl rfl rfl rfl ⟨Nat.le_of_ble_eq_true rfl, Nat.le_of_ble_eq_true rfl, rfl, rfl, Nat.le_of_ble_eq_true rfl, Nat.le_of_ble_eq_true rfl⟩ (Nat.le_of_ble_eq_true rfl) ?_
          refine z_aload_n X 0 dX5_isAgreedOn_24 rfl rfl ?_
          refine z_iload_n X 2 dX5_isAgreedOn_25 rfl rfl ?_
          obtain ⟨o5, e6, h⟩ := bnd_p h
          refine z_rdV (rest := [.int o3]) (q0 := 0) (ci := 6) X IR_P k_X5_cellAt (c_X5_cellAt l D g q_this q_cells q_tolds x2 f_size a_cells o5 e6) ql_X5_X5_cellAt dX5_isAgreedOn_26 [0, 1] rfl rfl rfl rfl rfl rfl ⟨Nat.le_of_ble_eq_true rfl, Nat.le_of_ble_eq_true rfl, rfl, rfl, Nat.le_of_ble_eq_true rfl, Nat.le_of_ble_eq_true rfl⟩ (Nat.le_of_ble_eq_true rfl) ?_
          refine z_iload_n X 1 dX5_isAgreedOn_29 rfl rfl ?_
          obtain ⟨o7, e8, h⟩ := bnd_p h
          refine z_rdS (rest := [.int o3]) X IR_P k_X0_distance (c_X0_distance l D g o5 p1 o7 e8) ql_X5_X0_distance dX5_isAgreedOn_30 [] rfl rfl rfl ⟨Nat.le_of_ble_eq_true rfl, Nat.le_of_ble_eq_true rfl, rfl, rfl, Nat.le_of_ble_eq_true rfl, Nat.le_of_ble_eq_true rfl⟩ (Nat.le_of_ble_eq_true rfl) ?_
          refine z_icmp_eq X 38 dX5_isAgreedOn_33 (by decide) h (fun _ h => ?_) (fun _ h => ?_)
          · refine z_iinc X 2 [(2, .int (x2 + 1)), (0, .ref q_this), (1, .int p1)] dX5_isAgreedOn_38 rfl rfl (by decide) rfl ?_
            refine z_goto X 2 dX5_isAgreedOn_41 (by decide) ?_
            refine z_sub (lv' := [(0, .ref q_this), (1, .int p1), (2, .int (x2 + 1))]) [1, 2, 0] rfl ?_
            exact ih2 (x2 + 1) h
          · refine z_iconst X (0 : Int32) dX5_isAgreedOn_36 (by decide) ?_
            exact z_zretR X hQ hr dX5_isAgreedOn_37 rfl h
  refine z_iconst X (0 : Int32) dX5_isAgreedOn_0 (by decide) ?_
  refine z_istore_n X [(2, .int (0 : Int32)), (0, .ref q_this), (1, .int p1)] dX5_isAgreedOn_1 rfl (by decide) rfl ?_
  refine z_sub (lv' := [(0, .ref q_this), (1, .int p1), (2, .int (0 : Int32))]) [1, 2, 0] rfl ?_
  exact H2 100 (0 : Int32) h

def F_X9_canBeFrom (p1 : Int32) (f_posts_size : Int32) (a_posts_cells : Nat → Int32) (a_posts_tolds : Nat → Int32) (a_blocks : Nat → Int32) : Option (Int32) :=
  bnd (F_X9_isBlocked p1 a_blocks) (fun o1 => brn (o1 = 0) (bnd (F_X5_isAgreedOn p1 f_posts_size a_posts_cells a_posts_tolds) (fun o3 => brn (o3 = 0) (some ((0 : Int32))) (some ((1 : Int32))))) (some ((0 : Int32))))
theorem dX9_canBeFrom_0 : decode cX9_canBeFrom 0 = .ok (.aload_n 0, 1) := by decide +kernel
theorem dX9_canBeFrom_1 : decode cX9_canBeFrom 1 = .ok (.iload_n 1, 1) := by decide +kernel
theorem dX9_canBeFrom_2 : decode cX9_canBeFrom 2 = .ok (.invokevirtual 82, 3) := by decide +kernel
theorem dX9_canBeFrom_5 : decode cX9_canBeFrom 5 = .ok (.ifCond .ne 18, 3) := by decide +kernel
theorem dX9_canBeFrom_8 : decode cX9_canBeFrom 8 = .ok (.aload_n 0, 1) := by decide +kernel
theorem dX9_canBeFrom_9 : decode cX9_canBeFrom 9 = .ok (.getfield 28, 3) := by decide +kernel
theorem dX9_canBeFrom_12 : decode cX9_canBeFrom 12 = .ok (.iload_n 1, 1) := by decide +kernel
theorem dX9_canBeFrom_13 : decode cX9_canBeFrom 13 = .ok (.invokevirtual 189, 3) := by decide +kernel
theorem dX9_canBeFrom_16 : decode cX9_canBeFrom 16 = .ok (.ifCond .eq 7, 3) := by decide +kernel
theorem dX9_canBeFrom_19 : decode cX9_canBeFrom 19 = .ok (.iconst 1, 1) := by decide +kernel
theorem dX9_canBeFrom_20 : decode cX9_canBeFrom 20 = .ok (.goto 4, 3) := by decide +kernel
theorem dX9_canBeFrom_23 : decode cX9_canBeFrom 23 = .ok (.iconst 0, 1) := by decide +kernel
theorem dX9_canBeFrom_24 : decode cX9_canBeFrom 24 = .ok (.ireturn, 1) := by decide +kernel
theorem k_X9_canBeFrom : cardV yX9_canBeFrom (Cond.code yX9_canBeFrom cX9_canBeFrom 2 (some .boolean)) 1 := ⟨⟨qi_X9_canBeFrom, qv_X9_canBeFrom⟩, qc_X9_canBeFrom, qn_X9, by decide +kernel, by decide +kernel, by decide +kernel⟩
set_option maxHeartbeats 4000000 in
set_option maxRecDepth 100000 in
theorem c_X9_canBeFrom (l : Launch) (D : va_G) (g : Nat → ClassId) (q_this q_houses q_halls q_posts q_blocks q_kinds q_posts_cells q_posts_tolds : Nat) (p1 : Int32) (f_hour : Int32) (f_day : Int32) (f_prankHouse : Int32) (f_bells : Int32) (f_echoes : Int32) (f_bellPranks : Int32) (f_posts_size : Int32) (a_posts_cells : Nat → Int32) (a_posts_tolds : Nat → Int32) (a_blocks : Nat → Int32) (o : Int32) (h : F_X9_canBeFrom p1 f_posts_size a_posts_cells a_posts_tolds a_blocks = some o) : MR l yX9_canBeFrom (Cond.code yX9_canBeFrom cX9_canBeFrom 2 (some .boolean)) { frames := 3, cells := 0, slots := 0, locals := 83 } D g [.ref q_this, .int p1] [(q_this, .inr (9, [.ref q_houses, .ref q_halls, .ref q_posts, .ref q_blocks, .ref q_kinds, .int f_hour, .int f_day, .int f_prankHouse, .int f_bells, .int f_echoes, .int f_bellPranks])), (q_posts, .inr (6, [.int f_posts_size, .ref q_posts_cells, .ref q_posts_tolds])), (q_posts_cells, .inl (g 0, 4, .inl a_posts_cells)), (q_posts_tolds, .inl (g 0, 4, .inl a_posts_tolds)), (q_blocks, .inl (g 0, 64, .inl a_blocks))] (some (.int o)) := by
  refine z_rd_start (by decide) (Nat.le_of_ble_eq_true rfl) ?_
  intro p e s m args below meth c Q X hr hQ
  refine z_lv (lv' := [(0, .ref q_this), (1, .int p1)]) rfl ?_
  refine z_aload_n X 0 dX9_canBeFrom_0 rfl rfl ?_
  refine z_iload_n X 1 dX9_canBeFrom_1 rfl rfl ?_
  obtain ⟨o1, e2, h⟩ := bnd_p h
  refine z_rdV (rest := []) (q0 := 0) (ci := 9) X IR_P k_X9_isBlocked (c_X9_isBlocked l D g q_this q_houses q_halls q_posts q_blocks q_kinds p1 f_hour f_day f_prankHouse f_bells f_echoes f_bellPranks a_blocks o1 e2) ql_X9_X9_isBlocked dX9_canBeFrom_2 [0, 4] rfl rfl rfl rfl rfl rfl ⟨Nat.le_of_ble_eq_true rfl, Nat.le_of_ble_eq_true rfl, rfl, rfl, Nat.le_of_ble_eq_true rfl, Nat.le_of_ble_eq_true rfl⟩ (Nat.le_of_ble_eq_true rfl) ?_
  refine z_if_ne X 23 dX9_canBeFrom_5 (by decide) h (fun _ h => ?_) (fun _ h => ?_)
  · refine z_aload_n X 0 dX9_canBeFrom_8 rfl rfl ?_
    refine z_get (q0 := 0) (k := 2) (ci := 9) X IR_P iw_X9 rfl qf_X9_X9_posts (by decide) dX9_canBeFrom_9 rfl rfl ?_
    refine z_iload_n X 1 dX9_canBeFrom_12 rfl rfl ?_
    obtain ⟨o3, e4, h⟩ := bnd_p h
    refine z_rdV (rest := []) (q0 := 1) (ci := 6) X IR_P k_X5_isAgreedOn (c_X5_isAgreedOn l D g q_posts q_posts_cells q_posts_tolds p1 f_posts_size a_posts_cells a_posts_tolds o3 e4) ql_X9_X5_isAgreedOn dX9_canBeFrom_13 [1, 2, 3] rfl rfl rfl rfl rfl rfl ⟨Nat.le_of_ble_eq_true rfl, Nat.le_of_ble_eq_true rfl, rfl, rfl, Nat.le_of_ble_eq_true rfl, Nat.le_of_ble_eq_true rfl⟩ (Nat.le_of_ble_eq_true rfl) ?_
    refine z_if_eq X 23 dX9_canBeFrom_16 (by decide) h (fun _ h => ?_) (fun _ h => ?_)
    · refine z_iconst X (0 : Int32) dX9_canBeFrom_23 (by decide) ?_
      exact z_zretR X hQ hr dX9_canBeFrom_24 rfl h
    · refine z_iconst X (1 : Int32) dX9_canBeFrom_19 (by decide) ?_
      refine z_goto X 24 dX9_canBeFrom_20 (by decide) ?_
      exact z_zretR X hQ hr dX9_canBeFrom_24 rfl h
  · refine z_iconst X (0 : Int32) dX9_canBeFrom_23 (by decide) ?_
    exact z_zretR X hQ hr dX9_canBeFrom_24 rfl h

def L_X9_countFits_4 (f_posts_size : Int32) (a_posts_cells : Nat → Int32) (a_posts_tolds : Nat → Int32) (a_blocks : Nat → Int32) : Nat → Int32 → Int32 → Option (Int32)
  | 0, _, _ => none
  | _n + 1, x1, x2 =>
    brn ((64 : Int32) ≤ x2) (some (x1)) (bnd (F_X9_canBeFrom x2 f_posts_size a_posts_cells a_posts_tolds a_blocks) (fun o1 => brn (o1 = 0) (L_X9_countFits_4 f_posts_size a_posts_cells a_posts_tolds a_blocks _n x1 (x2 + 1)) (L_X9_countFits_4 f_posts_size a_posts_cells a_posts_tolds a_blocks _n (x1 + 1) (x2 + 1))))

def F_X9_countFits (f_posts_size : Int32) (a_posts_cells : Nat → Int32) (a_posts_tolds : Nat → Int32) (a_blocks : Nat → Int32) : Option (Int32) :=
  L_X9_countFits_4 f_posts_size a_posts_cells a_posts_tolds a_blocks 100 (0 : Int32) (0 : Int32)
theorem dX9_countFits_0 : decode cX9_countFits 0 = .ok (.iconst 0, 1) := by decide +kernel
theorem dX9_countFits_1 : decode cX9_countFits 1 = .ok (.istore_n 1, 1) := by decide +kernel
theorem dX9_countFits_2 : decode cX9_countFits 2 = .ok (.iconst 0, 1) := by decide +kernel
theorem dX9_countFits_3 : decode cX9_countFits 3 = .ok (.istore_n 2, 1) := by decide +kernel
theorem dX9_countFits_4 : decode cX9_countFits 4 = .ok (.iload_n 2, 1) := by decide +kernel
theorem dX9_countFits_5 : decode cX9_countFits 5 = .ok (.bipush 64, 2) := by decide +kernel
theorem dX9_countFits_7 : decode cX9_countFits 7 = .ok (.if_icmp .ge 20, 3) := by decide +kernel
theorem dX9_countFits_10 : decode cX9_countFits 10 = .ok (.aload_n 0, 1) := by decide +kernel
theorem dX9_countFits_11 : decode cX9_countFits 11 = .ok (.iload_n 2, 1) := by decide +kernel
theorem dX9_countFits_12 : decode cX9_countFits 12 = .ok (.invokevirtual 192, 3) := by decide +kernel
theorem dX9_countFits_15 : decode cX9_countFits 15 = .ok (.ifCond .eq 6, 3) := by decide +kernel
theorem dX9_countFits_18 : decode cX9_countFits 18 = .ok (.iinc 1 1, 3) := by decide +kernel
theorem dX9_countFits_21 : decode cX9_countFits 21 = .ok (.iinc 2 1, 3) := by decide +kernel
theorem dX9_countFits_24 : decode cX9_countFits 24 = .ok (.goto (-20), 3) := by decide +kernel
theorem dX9_countFits_27 : decode cX9_countFits 27 = .ok (.iload_n 1, 1) := by decide +kernel
theorem dX9_countFits_28 : decode cX9_countFits 28 = .ok (.ireturn, 1) := by decide +kernel
theorem k_X9_countFits : cardV yX9_countFits (Cond.code yX9_countFits cX9_countFits 3 (some .int)) 0 := ⟨⟨qi_X9_countFits, qv_X9_countFits⟩, qc_X9_countFits, qn_X9, by decide +kernel, by decide +kernel, by decide +kernel⟩
set_option maxHeartbeats 4000000 in
set_option maxRecDepth 100000 in
theorem c_X9_countFits (l : Launch) (D : va_G) (g : Nat → ClassId) (q_this q_houses q_halls q_posts q_blocks q_kinds q_posts_cells q_posts_tolds : Nat) (f_hour : Int32) (f_day : Int32) (f_prankHouse : Int32) (f_bells : Int32) (f_echoes : Int32) (f_bellPranks : Int32) (f_posts_size : Int32) (a_posts_cells : Nat → Int32) (a_posts_tolds : Nat → Int32) (a_blocks : Nat → Int32) (o : Int32) (h : F_X9_countFits f_posts_size a_posts_cells a_posts_tolds a_blocks = some o) : MR l yX9_countFits (Cond.code yX9_countFits cX9_countFits 3 (some .int)) { frames := 4, cells := 0, slots := 0, locals := 104 } D g [.ref q_this] [(q_this, .inr (9, [.ref q_houses, .ref q_halls, .ref q_posts, .ref q_blocks, .ref q_kinds, .int f_hour, .int f_day, .int f_prankHouse, .int f_bells, .int f_echoes, .int f_bellPranks])), (q_posts, .inr (6, [.int f_posts_size, .ref q_posts_cells, .ref q_posts_tolds])), (q_posts_cells, .inl (g 0, 4, .inl a_posts_cells)), (q_posts_tolds, .inl (g 0, 4, .inl a_posts_tolds)), (q_blocks, .inl (g 0, 64, .inl a_blocks))] (some (.int o)) := by
  refine z_rd_start (by decide) (Nat.le_of_ble_eq_true rfl) ?_
  intro p e s m args below meth c Q X hr hQ
  refine z_lv (lv' := [(0, .ref q_this)]) rfl ?_
  have H4 : ∀ (n : Nat) (x1 : Int32) (x2 : Int32), L_X9_countFits_4 f_posts_size a_posts_cells a_posts_tolds a_blocks  n x1 x2 = some o → Z p l e { frames := 4, cells := 0, slots := 0, locals := 104 } s m args below meth c Q 3 0 0 (IR D [(q_this, .inr (9, [.ref q_houses, .ref q_halls, .ref q_posts, .ref q_blocks, .ref q_kinds, .int f_hour, .int f_day, .int f_prankHouse, .int f_bells, .int f_echoes, .int f_bellPranks])), (q_posts, .inr (6, [.int f_posts_size, .ref q_posts_cells, .ref q_posts_tolds])), (q_posts_cells, .inl (g 0, 4, .inl a_posts_cells)), (q_posts_tolds, .inl (g 0, 4, .inl a_posts_tolds)), (q_blocks, .inl (g 0, 64, .inl a_blocks))] s) 4 [(0, .ref q_this), (1, .int x1), (2, .int x2)] [] := by
    intro n
    induction n with
    | zero => intro x1 x2 h; cases h
    | succ n4 ih4 =>
      intro x1 x2 h
      refine z_iload_n X 2 dX9_countFits_4 rfl rfl ?_
      refine z_bipush X (64 : Int32) dX9_countFits_5 (by decide) ?_
      refine z_icmp_ge X 27 dX9_countFits_7 (by decide) h (fun _ h => ?_) (fun _ h => ?_)
      · refine z_iload_n X 1 dX9_countFits_27 rfl rfl ?_
        exact z_iretR X hQ hr dX9_countFits_28 h
      · refine z_aload_n X 0 dX9_countFits_10 rfl rfl ?_
        refine z_iload_n X 2 dX9_countFits_11 rfl rfl ?_
        obtain ⟨o1, e2, h⟩ := bnd_p h
        refine z_rdV (rest := []) (q0 := 0) (ci := 9) X IR_P k_X9_canBeFrom (c_X9_canBeFrom l D g q_this q_houses q_halls q_posts q_blocks q_kinds q_posts_cells q_posts_tolds x2 f_hour f_day f_prankHouse f_bells f_echoes f_bellPranks f_posts_size a_posts_cells a_posts_tolds a_blocks o1 e2) ql_X9_X9_canBeFrom dX9_countFits_12 [0, 1, 2, 3, 4] rfl rfl rfl rfl rfl rfl ⟨Nat.le_of_ble_eq_true rfl, Nat.le_of_ble_eq_true rfl, rfl, rfl, Nat.le_of_ble_eq_true rfl, Nat.le_of_ble_eq_true rfl⟩ (Nat.le_of_ble_eq_true rfl) ?_
        refine z_if_eq X 21 dX9_countFits_15 (by decide) h (fun _ h => ?_) (fun _ h => ?_)
        · refine z_iinc X 2 [(2, .int (x2 + 1)), (0, .ref q_this), (1, .int x1)] dX9_countFits_21 rfl rfl (by decide) rfl ?_
          refine z_goto X 4 dX9_countFits_24 (by decide) ?_
          refine z_sub (lv' := [(0, .ref q_this), (1, .int x1), (2, .int (x2 + 1))]) [1, 2, 0] rfl ?_
          exact ih4 x1 (x2 + 1) h
        · refine z_iinc X 1 [(1, .int (x1 + 1)), (0, .ref q_this), (2, .int x2)] dX9_countFits_18 rfl rfl (by decide) rfl ?_
          refine z_iinc X 2 [(2, .int (x2 + 1)), (1, .int (x1 + 1)), (0, .ref q_this)] dX9_countFits_21 rfl rfl (by decide) rfl ?_
          refine z_goto X 4 dX9_countFits_24 (by decide) ?_
          refine z_sub (lv' := [(0, .ref q_this), (1, .int (x1 + 1)), (2, .int (x2 + 1))]) [2, 1, 0] rfl ?_
          exact ih4 (x1 + 1) (x2 + 1) h
  refine z_iconst X (0 : Int32) dX9_countFits_0 (by decide) ?_
  refine z_istore_n X [(1, .int (0 : Int32)), (0, .ref q_this)] dX9_countFits_1 rfl (by decide) rfl ?_
  refine z_iconst X (0 : Int32) dX9_countFits_2 (by decide) ?_
  refine z_istore_n X [(2, .int (0 : Int32)), (1, .int (0 : Int32)), (0, .ref q_this)] dX9_countFits_3 rfl (by decide) rfl ?_
  refine z_sub (lv' := [(0, .ref q_this), (1, .int (0 : Int32)), (2, .int (0 : Int32))]) [2, 1, 0] rfl ?_
  exact H4 100 (0 : Int32) (0 : Int32) h

def L_X5_firstTeller_2 (f_size : Int32) (a_tolds : Nat → Int32) : Nat → Int32 → Option (Int32)
  | 0, _ => none
  | _n + 1, x1 =>
    brn (f_size ≤ x1) (some (((-1) : Int32))) (bnd (F_X5_toldAt x1 a_tolds) (fun o1 => brn (o1 = ((-1) : Int32)) (L_X5_firstTeller_2 f_size a_tolds _n (x1 + 1)) (some (x1))))

def F_X5_firstTeller (f_size : Int32) (a_tolds : Nat → Int32) : Option (Int32) :=
  L_X5_firstTeller_2 f_size a_tolds 100 (0 : Int32)
theorem dX5_firstTeller_0 : decode cX5_firstTeller 0 = .ok (.iconst 0, 1) := by decide +kernel
theorem dX5_firstTeller_1 : decode cX5_firstTeller 1 = .ok (.istore_n 1, 1) := by decide +kernel
theorem dX5_firstTeller_2 : decode cX5_firstTeller 2 = .ok (.iload_n 1, 1) := by decide +kernel
theorem dX5_firstTeller_3 : decode cX5_firstTeller 3 = .ok (.aload_n 0, 1) := by decide +kernel
theorem dX5_firstTeller_4 : decode cX5_firstTeller 4 = .ok (.getfield 18, 3) := by decide +kernel
theorem dX5_firstTeller_7 : decode cX5_firstTeller 7 = .ok (.if_icmp .ge 20, 3) := by decide +kernel
theorem dX5_firstTeller_10 : decode cX5_firstTeller 10 = .ok (.aload_n 0, 1) := by decide +kernel
theorem dX5_firstTeller_11 : decode cX5_firstTeller 11 = .ok (.iload_n 1, 1) := by decide +kernel
theorem dX5_firstTeller_12 : decode cX5_firstTeller 12 = .ok (.invokevirtual 40, 3) := by decide +kernel
theorem dX5_firstTeller_15 : decode cX5_firstTeller 15 = .ok (.iconst (-1), 1) := by decide +kernel
theorem dX5_firstTeller_16 : decode cX5_firstTeller 16 = .ok (.if_icmp .eq 5, 3) := by decide +kernel
theorem dX5_firstTeller_19 : decode cX5_firstTeller 19 = .ok (.iload_n 1, 1) := by decide +kernel
theorem dX5_firstTeller_20 : decode cX5_firstTeller 20 = .ok (.ireturn, 1) := by decide +kernel
theorem dX5_firstTeller_21 : decode cX5_firstTeller 21 = .ok (.iinc 1 1, 3) := by decide +kernel
theorem dX5_firstTeller_24 : decode cX5_firstTeller 24 = .ok (.goto (-22), 3) := by decide +kernel
theorem dX5_firstTeller_27 : decode cX5_firstTeller 27 = .ok (.iconst (-1), 1) := by decide +kernel
theorem dX5_firstTeller_28 : decode cX5_firstTeller 28 = .ok (.ireturn, 1) := by decide +kernel
theorem k_X5_firstTeller : cardV yX5_firstTeller (Cond.code yX5_firstTeller cX5_firstTeller 2 (some .int)) 0 := ⟨⟨qi_X5_firstTeller, qv_X5_firstTeller⟩, qc_X5_firstTeller, qn_X5, by decide +kernel, by decide +kernel, by decide +kernel⟩
set_option maxHeartbeats 4000000 in
set_option maxRecDepth 100000 in
theorem c_X5_firstTeller (l : Launch) (D : va_G) (g : Nat → ClassId) (q_this q_cells q_tolds : Nat) (f_size : Int32) (a_tolds : Nat → Int32) (o : Int32) (h : F_X5_firstTeller f_size a_tolds = some o) : MR l yX5_firstTeller (Cond.code yX5_firstTeller cX5_firstTeller 2 (some .int)) { frames := 2, cells := 0, slots := 0, locals := 42 } D g [.ref q_this] [(q_this, .inr (6, [.int f_size, .ref q_cells, .ref q_tolds])), (q_tolds, .inl (g 0, 4, .inl a_tolds))] (some (.int o)) := by
  refine z_rd_start (by decide) (Nat.le_of_ble_eq_true rfl) ?_
  intro p e s m args below meth c Q X hr hQ
  refine z_lv (lv' := [(0, .ref q_this)]) rfl ?_
  have H2 : ∀ (n : Nat) (x1 : Int32), L_X5_firstTeller_2 f_size a_tolds  n x1 = some o → Z p l e { frames := 2, cells := 0, slots := 0, locals := 42 } s m args below meth c Q 2 0 0 (IR D [(q_this, .inr (6, [.int f_size, .ref q_cells, .ref q_tolds])), (q_tolds, .inl (g 0, 4, .inl a_tolds))] s) 2 [(0, .ref q_this), (1, .int x1)] [] := by
    intro n
    induction n with
    | zero => intro x1 h; cases h
    | succ n2 ih2 =>
      intro x1 h
      refine z_iload_n X 1 dX5_firstTeller_2 rfl rfl ?_
      refine z_aload_n X 0 dX5_firstTeller_3 rfl rfl ?_
      refine z_get (q0 := 0) (k := 0) (ci := 6) X IR_P iw_X5 rfl qf_X5_X5_size (by decide) dX5_firstTeller_4 rfl rfl ?_
      refine z_icmp_ge X 27 dX5_firstTeller_7 (by decide) h (fun _ h => ?_) (fun _ h => ?_)
      · refine z_iconst X ((-1) : Int32) dX5_firstTeller_27 (by decide) ?_
        exact z_iretR X hQ hr dX5_firstTeller_28 h
      · refine z_aload_n X 0 dX5_firstTeller_10 rfl rfl ?_
        refine z_iload_n X 1 dX5_firstTeller_11 rfl rfl ?_
        obtain ⟨o1, e2, h⟩ := bnd_p h
        refine z_rdV (rest := []) (q0 := 0) (ci := 6) X IR_P k_X5_toldAt (c_X5_toldAt l D g q_this q_cells q_tolds x1 f_size a_tolds o1 e2) ql_X5_X5_toldAt dX5_firstTeller_12 [0, 1] rfl rfl rfl rfl rfl rfl ⟨Nat.le_of_ble_eq_true rfl, Nat.le_of_ble_eq_true rfl, rfl, rfl, Nat.le_of_ble_eq_true rfl, Nat.le_of_ble_eq_true rfl⟩ (Nat.le_of_ble_eq_true rfl) ?_
        refine z_iconst X ((-1) : Int32) dX5_firstTeller_15 (by decide) ?_
        refine z_icmp_eq X 21 dX5_firstTeller_16 (by decide) h (fun _ h => ?_) (fun _ h => ?_)
        · refine z_iinc X 1 [(1, .int (x1 + 1)), (0, .ref q_this)] dX5_firstTeller_21 rfl rfl (by decide) rfl ?_
          refine z_goto X 2 dX5_firstTeller_24 (by decide) ?_
          refine z_sub (lv' := [(0, .ref q_this), (1, .int (x1 + 1))]) [1, 0] rfl ?_
          exact ih2 (x1 + 1) h
        · refine z_iload_n X 1 dX5_firstTeller_19 rfl rfl ?_
          exact z_iretR X hQ hr dX5_firstTeller_20 h
  refine z_iconst X (0 : Int32) dX5_firstTeller_0 (by decide) ?_
  refine z_istore_n X [(1, .int (0 : Int32)), (0, .ref q_this)] dX5_firstTeller_1 rfl (by decide) rfl ?_
  refine z_sub (lv' := [(0, .ref q_this), (1, .int (0 : Int32))]) [1, 0] rfl ?_
  exact H2 100 (0 : Int32) h

def L_X7_sum_10 (n_p0 : Nat) (a_p0 : Nat → Int32) : Nat → Int32 → Int32 → Int32 → Option (Int32)
  | 0, _, _, _ => none
  | _n + 1, x1, x3, x4 =>
    brn (x3 ≤ x4) (some (x1)) (grd (inb x4 n_p0) (L_X7_sum_10 n_p0 a_p0 _n (x1 + (a_p0 x4.toNatClampNeg)) x3 (x4 + 1)))

def F_X7_sum (n_p0 : Nat) (a_p0 : Nat → Int32) : Option (Int32) :=
  L_X7_sum_10 n_p0 a_p0 100 (0 : Int32) (Int32.ofNat n_p0) (0 : Int32)
theorem dX7_sum_0 : decode cX7_sum 0 = .ok (.iconst 0, 1) := by decide +kernel
theorem dX7_sum_1 : decode cX7_sum 1 = .ok (.istore_n 1, 1) := by decide +kernel
theorem dX7_sum_2 : decode cX7_sum 2 = .ok (.aload_n 0, 1) := by decide +kernel
theorem dX7_sum_3 : decode cX7_sum 3 = .ok (.astore_n 2, 1) := by decide +kernel
theorem dX7_sum_4 : decode cX7_sum 4 = .ok (.aload_n 2, 1) := by decide +kernel
theorem dX7_sum_5 : decode cX7_sum 5 = .ok (.arraylength, 1) := by decide +kernel
theorem dX7_sum_6 : decode cX7_sum 6 = .ok (.istore_n 3, 1) := by decide +kernel
theorem dX7_sum_7 : decode cX7_sum 7 = .ok (.iconst 0, 1) := by decide +kernel
theorem dX7_sum_8 : decode cX7_sum 8 = .ok (.istore 4, 2) := by decide +kernel
theorem dX7_sum_10 : decode cX7_sum 10 = .ok (.iload 4, 2) := by decide +kernel
theorem dX7_sum_12 : decode cX7_sum 12 = .ok (.iload_n 3, 1) := by decide +kernel
theorem dX7_sum_13 : decode cX7_sum 13 = .ok (.if_icmp .ge 20, 3) := by decide +kernel
theorem dX7_sum_16 : decode cX7_sum 16 = .ok (.aload_n 2, 1) := by decide +kernel
theorem dX7_sum_17 : decode cX7_sum 17 = .ok (.iload 4, 2) := by decide +kernel
theorem dX7_sum_19 : decode cX7_sum 19 = .ok (.iaload, 1) := by decide +kernel
theorem dX7_sum_20 : decode cX7_sum 20 = .ok (.istore 5, 2) := by decide +kernel
theorem dX7_sum_22 : decode cX7_sum 22 = .ok (.iload_n 1, 1) := by decide +kernel
theorem dX7_sum_23 : decode cX7_sum 23 = .ok (.iload 5, 2) := by decide +kernel
theorem dX7_sum_25 : decode cX7_sum 25 = .ok (.iadd, 1) := by decide +kernel
theorem dX7_sum_26 : decode cX7_sum 26 = .ok (.istore_n 1, 1) := by decide +kernel
theorem dX7_sum_27 : decode cX7_sum 27 = .ok (.iinc 4 1, 3) := by decide +kernel
theorem dX7_sum_30 : decode cX7_sum 30 = .ok (.goto (-20), 3) := by decide +kernel
theorem dX7_sum_33 : decode cX7_sum 33 = .ok (.iload_n 1, 1) := by decide +kernel
theorem dX7_sum_34 : decode cX7_sum 34 = .ok (.ireturn, 1) := by decide +kernel
theorem k_X7_sum : cardS yX7_sum (Cond.code yX7_sum cX7_sum 6 (some .int)) 1 := ⟨qs_X7_sum, qc_X7_sum, qn_X7, by decide +kernel, by decide +kernel, by decide +kernel⟩
set_option maxHeartbeats 4000000 in
set_option maxRecDepth 100000 in
theorem c_X7_sum (l : Launch) (D : va_G) (g : Nat → ClassId) (q_p0 : Nat) (n_p0 : Nat) (a_p0 : Nat → Int32) (o : Int32) (h : F_X7_sum n_p0 a_p0 = some o) : MR l yX7_sum (Cond.code yX7_sum cX7_sum 6 (some .int)) { frames := 0, cells := 0, slots := 0, locals := 0 } D g [.ref q_p0] [(q_p0, .inl (g 0, n_p0, .inl a_p0))] (some (.int o)) := by
  refine z_rd_start (by decide) (Nat.le_of_ble_eq_true rfl) ?_
  intro p e s m args below meth c Q X hr hQ
  refine z_lv (lv' := [(0, .ref q_p0)]) rfl ?_
  have H10 : ∀ (n : Nat) (x1 : Int32) (x3 : Int32) (x4 : Int32), L_X7_sum_10 n_p0 a_p0  n x1 x3 x4 = some o → Z p l e { frames := 0, cells := 0, slots := 0, locals := 0 } s m args below meth c Q 6 0 0 (IR D [(q_p0, .inl (g 0, n_p0, .inl a_p0))] s) 10 [(1, .int x1), (2, .ref q_p0), (3, .int x3), (4, .int x4)] [] := by
    intro n
    induction n with
    | zero => intro x1 x3 x4 h; cases h
    | succ n10 ih10 =>
      intro x1 x3 x4 h
      refine z_iload X 3 dX7_sum_10 rfl ?_
      refine z_iload_n X 2 dX7_sum_12 rfl rfl ?_
      refine z_icmp_ge X 33 dX7_sum_13 (by decide) h (fun _ h => ?_) (fun _ h => ?_)
      · refine z_iload_n X 0 dX7_sum_33 rfl rfl ?_
        exact z_iretR X hQ hr dX7_sum_34 h
      · refine z_aload_n X 1 dX7_sum_16 rfl rfl ?_
        refine z_iload X 3 dX7_sum_17 rfl ?_
        refine z_iald (q0 := 0) X IR_P dX7_sum_19 rfl h (fun h => ?_)
        refine z_istore X [(5, .int (a_p0 x4.toNatClampNeg)), (1, .int x1), (2, .ref q_p0), (3, .int x3), (4, .int x4)] dX7_sum_20 (by decide) rfl ?_
        refine z_iload_n X 1 dX7_sum_22 rfl rfl ?_
        refine z_iload X 0 dX7_sum_23 rfl ?_
        refine z_iadd X dX7_sum_25 ?_
        refine z_istore_n X [(1, .int (x1 + (a_p0 x4.toNatClampNeg))), (5, .int (a_p0 x4.toNatClampNeg)), (2, .ref q_p0), (3, .int x3), (4, .int x4)] dX7_sum_26 rfl (by decide) rfl ?_
        refine z_iinc X 4 [(4, .int (x4 + 1)), (1, .int (x1 + (a_p0 x4.toNatClampNeg))), (5, .int (a_p0 x4.toNatClampNeg)), (2, .ref q_p0), (3, .int x3)] dX7_sum_27 rfl rfl (by decide) rfl ?_
        refine z_goto X 10 dX7_sum_30 (by decide) ?_
        refine z_sub (lv' := [(1, .int (x1 + (a_p0 x4.toNatClampNeg))), (2, .ref q_p0), (3, .int x3), (4, .int (x4 + 1))]) [1, 3, 4, 0] rfl ?_
        exact ih10 (x1 + (a_p0 x4.toNatClampNeg)) x3 (x4 + 1) h
  refine z_iconst X (0 : Int32) dX7_sum_0 (by decide) ?_
  refine z_istore_n X [(1, .int (0 : Int32)), (0, .ref q_p0)] dX7_sum_1 rfl (by decide) rfl ?_
  refine z_aload_n X 1 dX7_sum_2 rfl rfl ?_
  refine z_astore_n X [(2, .ref q_p0), (1, .int (0 : Int32)), (0, .ref q_p0)] dX7_sum_3 rfl (by decide) rfl ?_
  refine z_aload_n X 0 dX7_sum_4 rfl rfl ?_
  refine z_alen (q0 := 0) (v := Int32.ofNat n_p0) X IR_P 0 dX7_sum_5 rfl rfl rfl ?_
  refine z_istore_n X [(3, .int (Int32.ofNat n_p0)), (2, .ref q_p0), (1, .int (0 : Int32)), (0, .ref q_p0)] dX7_sum_6 rfl (by decide) rfl ?_
  refine z_iconst X (0 : Int32) dX7_sum_7 (by decide) ?_
  refine z_istore X [(4, .int (0 : Int32)), (3, .int (Int32.ofNat n_p0)), (2, .ref q_p0), (1, .int (0 : Int32)), (0, .ref q_p0)] dX7_sum_8 (by decide) rfl ?_
  refine z_sub (lv' := [(1, .int (0 : Int32)), (2, .ref q_p0), (3, .int (Int32.ofNat n_p0)), (4, .int (0 : Int32))]) [3, 2, 1, 0] rfl ?_
  exact H10 100 (0 : Int32) (Int32.ofNat n_p0) (0 : Int32) h

def F_X9_countBlocks (a_blocks : Nat → Int32) : Option (Int32) :=
  bnd (F_X7_sum 64 a_blocks) (fun o1 => some (o1))
theorem dX9_countBlocks_0 : decode cX9_countBlocks 0 = .ok (.aload_n 0, 1) := by decide +kernel
theorem dX9_countBlocks_1 : decode cX9_countBlocks 1 = .ok (.getfield 32, 3) := by decide +kernel
theorem dX9_countBlocks_4 : decode cX9_countBlocks 4 = .ok (.invokestatic 139, 3) := by decide +kernel
theorem dX9_countBlocks_7 : decode cX9_countBlocks 7 = .ok (.ireturn, 1) := by decide +kernel
theorem k_X9_countBlocks : cardV yX9_countBlocks (Cond.code yX9_countBlocks cX9_countBlocks 1 (some .int)) 0 := ⟨⟨qi_X9_countBlocks, qv_X9_countBlocks⟩, qc_X9_countBlocks, qn_X9, by decide +kernel, by decide +kernel, by decide +kernel⟩
set_option maxHeartbeats 4000000 in
set_option maxRecDepth 100000 in
theorem c_X9_countBlocks (l : Launch) (D : va_G) (g : Nat → ClassId) (q_this q_houses q_halls q_posts q_blocks q_kinds : Nat) (f_hour : Int32) (f_day : Int32) (f_prankHouse : Int32) (f_bells : Int32) (f_echoes : Int32) (f_bellPranks : Int32) (a_blocks : Nat → Int32) (o : Int32) (h : F_X9_countBlocks a_blocks = some o) : MR l yX9_countBlocks (Cond.code yX9_countBlocks cX9_countBlocks 1 (some .int)) { frames := 1, cells := 0, slots := 0, locals := 25 } D g [.ref q_this] [(q_this, .inr (9, [.ref q_houses, .ref q_halls, .ref q_posts, .ref q_blocks, .ref q_kinds, .int f_hour, .int f_day, .int f_prankHouse, .int f_bells, .int f_echoes, .int f_bellPranks])), (q_blocks, .inl (g 0, 64, .inl a_blocks))] (some (.int o)) := by
  refine z_rd_start (by decide) (Nat.le_of_ble_eq_true rfl) ?_
  intro p e s m args below meth c Q X hr hQ
  refine z_lv (lv' := [(0, .ref q_this)]) rfl ?_
  refine z_aload_n X 0 dX9_countBlocks_0 rfl rfl ?_
  refine z_get (q0 := 0) (k := 3) (ci := 9) X IR_P iw_X9 rfl qf_X9_X9_blocks (by decide) dX9_countBlocks_1 rfl rfl ?_
  obtain ⟨o1, e2, h⟩ := bnd_p h
  refine z_rdS (rest := []) X IR_P k_X7_sum (c_X7_sum l D g q_blocks 64 a_blocks o1 e2) ql_X9_X7_sum dX9_countBlocks_4 [1] rfl rfl rfl ⟨Nat.le_of_ble_eq_true rfl, Nat.le_of_ble_eq_true rfl, rfl, rfl, Nat.le_of_ble_eq_true rfl, Nat.le_of_ble_eq_true rfl⟩ (Nat.le_of_ble_eq_true rfl) ?_
  exact z_iretR X hQ hr dX9_countBlocks_7 h

def F_X9_countFit (p1 : Int32) (p2 : Int32) (f_posts_size : Int32) (a_posts_cells : Nat → Int32) (a_posts_tolds : Nat → Int32) (a_blocks : Nat → Int32) : Option (Int32) :=
  bnd (F_X0_cellAt p1 p2) (fun o1 => brn (o1 = ((-1) : Int32)) (some ((0 : Int32))) (bnd (F_X9_canBeFrom o1 f_posts_size a_posts_cells a_posts_tolds a_blocks) (fun o3 => brn (o3 = 0) (some ((0 : Int32))) (some ((1 : Int32))))))
theorem dX9_countFit_0 : decode cX9_countFit 0 = .ok (.iload_n 1, 1) := by decide +kernel
theorem dX9_countFit_1 : decode cX9_countFit 1 = .ok (.iload_n 2, 1) := by decide +kernel
theorem dX9_countFit_2 : decode cX9_countFit 2 = .ok (.invokestatic 102, 3) := by decide +kernel
theorem dX9_countFit_5 : decode cX9_countFit 5 = .ok (.istore_n 3, 1) := by decide +kernel
theorem dX9_countFit_6 : decode cX9_countFit 6 = .ok (.iload_n 3, 1) := by decide +kernel
theorem dX9_countFit_7 : decode cX9_countFit 7 = .ok (.iconst (-1), 1) := by decide +kernel
theorem dX9_countFit_8 : decode cX9_countFit 8 = .ok (.if_icmp .eq 15, 3) := by decide +kernel
theorem dX9_countFit_11 : decode cX9_countFit 11 = .ok (.aload_n 0, 1) := by decide +kernel
theorem dX9_countFit_12 : decode cX9_countFit 12 = .ok (.iload_n 3, 1) := by decide +kernel
theorem dX9_countFit_13 : decode cX9_countFit 13 = .ok (.invokevirtual 192, 3) := by decide +kernel
theorem dX9_countFit_16 : decode cX9_countFit 16 = .ok (.ifCond .eq 7, 3) := by decide +kernel
theorem dX9_countFit_19 : decode cX9_countFit 19 = .ok (.iconst 1, 1) := by decide +kernel
theorem dX9_countFit_20 : decode cX9_countFit 20 = .ok (.goto 4, 3) := by decide +kernel
theorem dX9_countFit_23 : decode cX9_countFit 23 = .ok (.iconst 0, 1) := by decide +kernel
theorem dX9_countFit_24 : decode cX9_countFit 24 = .ok (.ireturn, 1) := by decide +kernel
theorem k_X9_countFit : cardV yX9_countFit (Cond.code yX9_countFit cX9_countFit 4 (some .int)) 2 := ⟨⟨qi_X9_countFit, qv_X9_countFit⟩, qc_X9_countFit, qn_X9, by decide +kernel, by decide +kernel, by decide +kernel⟩
set_option maxHeartbeats 4000000 in
set_option maxRecDepth 100000 in
theorem c_X9_countFit (l : Launch) (D : va_G) (g : Nat → ClassId) (q_this q_houses q_halls q_posts q_blocks q_kinds q_posts_cells q_posts_tolds : Nat) (p1 p2 : Int32) (f_hour : Int32) (f_day : Int32) (f_prankHouse : Int32) (f_bells : Int32) (f_echoes : Int32) (f_bellPranks : Int32) (f_posts_size : Int32) (a_posts_cells : Nat → Int32) (a_posts_tolds : Nat → Int32) (a_blocks : Nat → Int32) (o : Int32) (h : F_X9_countFit p1 p2 f_posts_size a_posts_cells a_posts_tolds a_blocks = some o) : MR l yX9_countFit (Cond.code yX9_countFit cX9_countFit 4 (some .int)) { frames := 4, cells := 0, slots := 0, locals := 104 } D g [.ref q_this, .int p1, .int p2] [(q_this, .inr (9, [.ref q_houses, .ref q_halls, .ref q_posts, .ref q_blocks, .ref q_kinds, .int f_hour, .int f_day, .int f_prankHouse, .int f_bells, .int f_echoes, .int f_bellPranks])), (q_posts, .inr (6, [.int f_posts_size, .ref q_posts_cells, .ref q_posts_tolds])), (q_posts_cells, .inl (g 0, 4, .inl a_posts_cells)), (q_posts_tolds, .inl (g 0, 4, .inl a_posts_tolds)), (q_blocks, .inl (g 0, 64, .inl a_blocks))] (some (.int o)) := by
  refine z_rd_start (by decide) (Nat.le_of_ble_eq_true rfl) ?_
  intro p e s m args below meth c Q X hr hQ
  refine z_lv (lv' := [(0, .ref q_this), (1, .int p1), (2, .int p2)]) rfl ?_
  refine z_iload_n X 1 dX9_countFit_0 rfl rfl ?_
  refine z_iload_n X 2 dX9_countFit_1 rfl rfl ?_
  obtain ⟨o1, e2, h⟩ := bnd_p h
  refine z_rdS (rest := []) X IR_P k_X0_cellAt (c_X0_cellAt l D g p1 p2 o1 e2) ql_X9_X0_cellAt dX9_countFit_2 [] rfl rfl rfl ⟨Nat.le_of_ble_eq_true rfl, Nat.le_of_ble_eq_true rfl, rfl, rfl, Nat.le_of_ble_eq_true rfl, Nat.le_of_ble_eq_true rfl⟩ (Nat.le_of_ble_eq_true rfl) ?_
  refine z_istore_n X [(3, .int o1), (0, .ref q_this), (1, .int p1), (2, .int p2)] dX9_countFit_5 rfl (by decide) rfl ?_
  refine z_iload_n X 0 dX9_countFit_6 rfl rfl ?_
  refine z_iconst X ((-1) : Int32) dX9_countFit_7 (by decide) ?_
  refine z_icmp_eq X 23 dX9_countFit_8 (by decide) h (fun _ h => ?_) (fun _ h => ?_)
  · refine z_iconst X (0 : Int32) dX9_countFit_23 (by decide) ?_
    exact z_iretR X hQ hr dX9_countFit_24 h
  · refine z_aload_n X 1 dX9_countFit_11 rfl rfl ?_
    refine z_iload_n X 0 dX9_countFit_12 rfl rfl ?_
    obtain ⟨o3, e4, h⟩ := bnd_p h
    refine z_rdV (rest := []) (q0 := 0) (ci := 9) X IR_P k_X9_canBeFrom (c_X9_canBeFrom l D g q_this q_houses q_halls q_posts q_blocks q_kinds q_posts_cells q_posts_tolds o1 f_hour f_day f_prankHouse f_bells f_echoes f_bellPranks f_posts_size a_posts_cells a_posts_tolds a_blocks o3 e4) ql_X9_X9_canBeFrom dX9_countFit_13 [0, 1, 2, 3, 4] rfl rfl rfl rfl rfl rfl ⟨Nat.le_of_ble_eq_true rfl, Nat.le_of_ble_eq_true rfl, rfl, rfl, Nat.le_of_ble_eq_true rfl, Nat.le_of_ble_eq_true rfl⟩ (Nat.le_of_ble_eq_true rfl) ?_
    refine z_if_eq X 23 dX9_countFit_16 (by decide) h (fun _ h => ?_) (fun _ h => ?_)
    · refine z_iconst X (0 : Int32) dX9_countFit_23 (by decide) ?_
      exact z_iretR X hQ hr dX9_countFit_24 h
    · refine z_iconst X (1 : Int32) dX9_countFit_19 (by decide) ?_
      refine z_goto X 24 dX9_countFit_20 (by decide) ?_
      exact z_iretR X hQ hr dX9_countFit_24 h

def J_X9_countFitsAround_111 (f_posts_size : Int32) (a_posts_cells : Nat → Int32) (a_posts_tolds : Nat → Int32) (a_blocks : Nat → Int32) (r35 : Int32 → Int32 → Int32 → Int32 → Option (Int32)) (t0 : Int32) (t1 : Int32) (x1 : Int32) (x2 : Int32) (x4 : Int32) : Option (Int32) :=
  r35 x1 x2 (t1 + t0) (x4 + 1)

def J_X9_countFitsAround_86 (f_posts_size : Int32) (a_posts_cells : Nat → Int32) (a_posts_tolds : Nat → Int32) (a_blocks : Nat → Int32) (r35 : Int32 → Int32 → Int32 → Int32 → Option (Int32)) (t0 : Int32) (t1 : Int32) (x1 : Int32) (x2 : Int32) (x4 : Int32) (x5 : Int32) : Option (Int32) :=
  brn (x5 ≤ 0) (J_X9_countFitsAround_111 f_posts_size a_posts_cells a_posts_tolds a_blocks (r35) (0 : Int32) (t1 + t0) x1 x2 x4) (bnd (F_X0_columnOf x2) (fun o11 => bnd (F_X9_countFit x4 (o11 - x5) f_posts_size a_posts_cells a_posts_tolds a_blocks) (fun o13 => J_X9_countFitsAround_111 f_posts_size a_posts_cells a_posts_tolds a_blocks (r35) o13 (t1 + t0) x1 x2 x4)))

def L_X9_countFitsAround_35 (f_posts_size : Int32) (a_posts_cells : Nat → Int32) (a_posts_tolds : Nat → Int32) (a_blocks : Nat → Int32) : Nat → Int32 → Int32 → Int32 → Int32 → Option (Int32)
  | 0, _, _, _, _ => none
  | _n + 1, x1, x2, x3, x4 =>
    brn ((8 : Int32) ≤ x4) (some (x3)) (bnd (F_X5_toldAt x1 a_posts_tolds) (fun o7 => bnd (F_X0_rowOf x2) (fun o9 => brn ((o7 - (if 0 ≤ (x4 - o9) then (x4 - o9) else 0 - (x4 - o9))) < 0) (J_X9_countFitsAround_86 f_posts_size a_posts_cells a_posts_tolds a_blocks (L_X9_countFitsAround_35 f_posts_size a_posts_cells a_posts_tolds a_blocks _n) (0 : Int32) x3 x1 x2 x4 (o7 - (if 0 ≤ (x4 - o9) then (x4 - o9) else 0 - (x4 - o9)))) (bnd (F_X0_columnOf x2) (fun o15 => bnd (F_X9_countFit x4 (o15 + (o7 - (if 0 ≤ (x4 - o9) then (x4 - o9) else 0 - (x4 - o9)))) f_posts_size a_posts_cells a_posts_tolds a_blocks) (fun o17 => J_X9_countFitsAround_86 f_posts_size a_posts_cells a_posts_tolds a_blocks (L_X9_countFitsAround_35 f_posts_size a_posts_cells a_posts_tolds a_blocks _n) o17 x3 x1 x2 x4 (o7 - (if 0 ≤ (x4 - o9) then (x4 - o9) else 0 - (x4 - o9)))))))))

def F_X9_countFitsAround (f_posts_size : Int32) (a_posts_cells : Nat → Int32) (a_posts_tolds : Nat → Int32) (a_blocks : Nat → Int32) : Option (Int32) :=
  bnd (F_X5_firstTeller f_posts_size a_posts_tolds) (fun o1 => brn (o1 = ((-1) : Int32)) (bnd (F_X9_countBlocks a_blocks) (fun o3 => some ((64 : Int32) - o3))) (bnd (F_X5_cellAt o1 a_posts_cells) (fun o5 => L_X9_countFitsAround_35 f_posts_size a_posts_cells a_posts_tolds a_blocks 100 o1 o5 (0 : Int32) (0 : Int32))))
theorem dX9_countFitsAround_0 : decode cX9_countFitsAround 0 = .ok (.aload_n 0, 1) := by decide +kernel
theorem dX9_countFitsAround_1 : decode cX9_countFitsAround 1 = .ok (.getfield 28, 3) := by decide +kernel
theorem dX9_countFitsAround_4 : decode cX9_countFitsAround 4 = .ok (.invokevirtual 195, 3) := by decide +kernel
theorem dX9_countFitsAround_7 : decode cX9_countFitsAround 7 = .ok (.istore_n 1, 1) := by decide +kernel
theorem dX9_countFitsAround_8 : decode cX9_countFitsAround 8 = .ok (.iload_n 1, 1) := by decide +kernel
theorem dX9_countFitsAround_9 : decode cX9_countFitsAround 9 = .ok (.iconst (-1), 1) := by decide +kernel
theorem dX9_countFitsAround_10 : decode cX9_countFitsAround 10 = .ok (.if_icmp .ne 11, 3) := by decide +kernel
theorem dX9_countFitsAround_13 : decode cX9_countFitsAround 13 = .ok (.bipush 64, 2) := by decide +kernel
theorem dX9_countFitsAround_15 : decode cX9_countFitsAround 15 = .ok (.aload_n 0, 1) := by decide +kernel
theorem dX9_countFitsAround_16 : decode cX9_countFitsAround 16 = .ok (.invokevirtual 198, 3) := by decide +kernel
theorem dX9_countFitsAround_19 : decode cX9_countFitsAround 19 = .ok (.isub, 1) := by decide +kernel
theorem dX9_countFitsAround_20 : decode cX9_countFitsAround 20 = .ok (.ireturn, 1) := by decide +kernel
theorem dX9_countFitsAround_21 : decode cX9_countFitsAround 21 = .ok (.aload_n 0, 1) := by decide +kernel
theorem dX9_countFitsAround_22 : decode cX9_countFitsAround 22 = .ok (.getfield 28, 3) := by decide +kernel
theorem dX9_countFitsAround_25 : decode cX9_countFitsAround 25 = .ok (.iload_n 1, 1) := by decide +kernel
theorem dX9_countFitsAround_26 : decode cX9_countFitsAround 26 = .ok (.invokevirtual 201, 3) := by decide +kernel
theorem dX9_countFitsAround_29 : decode cX9_countFitsAround 29 = .ok (.istore_n 2, 1) := by decide +kernel
theorem dX9_countFitsAround_30 : decode cX9_countFitsAround 30 = .ok (.iconst 0, 1) := by decide +kernel
theorem dX9_countFitsAround_31 : decode cX9_countFitsAround 31 = .ok (.istore_n 3, 1) := by decide +kernel
theorem dX9_countFitsAround_32 : decode cX9_countFitsAround 32 = .ok (.iconst 0, 1) := by decide +kernel
theorem dX9_countFitsAround_33 : decode cX9_countFitsAround 33 = .ok (.istore 4, 2) := by decide +kernel
theorem dX9_countFitsAround_35 : decode cX9_countFitsAround 35 = .ok (.iload 4, 2) := by decide +kernel
theorem dX9_countFitsAround_37 : decode cX9_countFitsAround 37 = .ok (.bipush 8, 2) := by decide +kernel
theorem dX9_countFitsAround_39 : decode cX9_countFitsAround 39 = .ok (.if_icmp .ge 80, 3) := by decide +kernel
theorem dX9_countFitsAround_42 : decode cX9_countFitsAround 42 = .ok (.aload_n 0, 1) := by decide +kernel
theorem dX9_countFitsAround_43 : decode cX9_countFitsAround 43 = .ok (.getfield 28, 3) := by decide +kernel
theorem dX9_countFitsAround_46 : decode cX9_countFitsAround 46 = .ok (.iload_n 1, 1) := by decide +kernel
theorem dX9_countFitsAround_47 : decode cX9_countFitsAround 47 = .ok (.invokevirtual 128, 3) := by decide +kernel
theorem dX9_countFitsAround_50 : decode cX9_countFitsAround 50 = .ok (.iload 4, 2) := by decide +kernel
theorem dX9_countFitsAround_52 : decode cX9_countFitsAround 52 = .ok (.iload_n 2, 1) := by decide +kernel
theorem dX9_countFitsAround_53 : decode cX9_countFitsAround 53 = .ok (.invokestatic 202, 3) := by decide +kernel
theorem dX9_countFitsAround_56 : decode cX9_countFitsAround 56 = .ok (.isub, 1) := by decide +kernel
theorem dX9_countFitsAround_57 : decode cX9_countFitsAround 57 = .ok (.invokestatic 205, 3) := by decide +kernel
theorem dX9_countFitsAround_60 : decode cX9_countFitsAround 60 = .ok (.isub, 1) := by decide +kernel
theorem dX9_countFitsAround_61 : decode cX9_countFitsAround 61 = .ok (.istore 5, 2) := by decide +kernel
theorem dX9_countFitsAround_63 : decode cX9_countFitsAround 63 = .ok (.iload_n 3, 1) := by decide +kernel
theorem dX9_countFitsAround_64 : decode cX9_countFitsAround 64 = .ok (.iload 5, 2) := by decide +kernel
theorem dX9_countFitsAround_66 : decode cX9_countFitsAround 66 = .ok (.ifCond .lt 19, 3) := by decide +kernel
theorem dX9_countFitsAround_69 : decode cX9_countFitsAround 69 = .ok (.aload_n 0, 1) := by decide +kernel
theorem dX9_countFitsAround_70 : decode cX9_countFitsAround 70 = .ok (.iload 4, 2) := by decide +kernel
theorem dX9_countFitsAround_72 : decode cX9_countFitsAround 72 = .ok (.iload_n 2, 1) := by decide +kernel
theorem dX9_countFitsAround_73 : decode cX9_countFitsAround 73 = .ok (.invokestatic 208, 3) := by decide +kernel
theorem dX9_countFitsAround_76 : decode cX9_countFitsAround 76 = .ok (.iload 5, 2) := by decide +kernel
theorem dX9_countFitsAround_78 : decode cX9_countFitsAround 78 = .ok (.iadd, 1) := by decide +kernel
theorem dX9_countFitsAround_79 : decode cX9_countFitsAround 79 = .ok (.invokevirtual 211, 3) := by decide +kernel
theorem dX9_countFitsAround_82 : decode cX9_countFitsAround 82 = .ok (.goto 4, 3) := by decide +kernel
theorem dX9_countFitsAround_85 : decode cX9_countFitsAround 85 = .ok (.iconst 0, 1) := by decide +kernel
theorem dX9_countFitsAround_86 : decode cX9_countFitsAround 86 = .ok (.iadd, 1) := by decide +kernel
theorem dX9_countFitsAround_87 : decode cX9_countFitsAround 87 = .ok (.istore_n 3, 1) := by decide +kernel
theorem dX9_countFitsAround_88 : decode cX9_countFitsAround 88 = .ok (.iload_n 3, 1) := by decide +kernel
theorem dX9_countFitsAround_89 : decode cX9_countFitsAround 89 = .ok (.iload 5, 2) := by decide +kernel
theorem dX9_countFitsAround_91 : decode cX9_countFitsAround 91 = .ok (.ifCond .le 19, 3) := by decide +kernel
theorem dX9_countFitsAround_94 : decode cX9_countFitsAround 94 = .ok (.aload_n 0, 1) := by decide +kernel
theorem dX9_countFitsAround_95 : decode cX9_countFitsAround 95 = .ok (.iload 4, 2) := by decide +kernel
theorem dX9_countFitsAround_97 : decode cX9_countFitsAround 97 = .ok (.iload_n 2, 1) := by decide +kernel
theorem dX9_countFitsAround_98 : decode cX9_countFitsAround 98 = .ok (.invokestatic 208, 3) := by decide +kernel
theorem dX9_countFitsAround_101 : decode cX9_countFitsAround 101 = .ok (.iload 5, 2) := by decide +kernel
theorem dX9_countFitsAround_103 : decode cX9_countFitsAround 103 = .ok (.isub, 1) := by decide +kernel
theorem dX9_countFitsAround_104 : decode cX9_countFitsAround 104 = .ok (.invokevirtual 211, 3) := by decide +kernel
theorem dX9_countFitsAround_107 : decode cX9_countFitsAround 107 = .ok (.goto 4, 3) := by decide +kernel
theorem dX9_countFitsAround_110 : decode cX9_countFitsAround 110 = .ok (.iconst 0, 1) := by decide +kernel
theorem dX9_countFitsAround_111 : decode cX9_countFitsAround 111 = .ok (.iadd, 1) := by decide +kernel
theorem dX9_countFitsAround_112 : decode cX9_countFitsAround 112 = .ok (.istore_n 3, 1) := by decide +kernel
theorem dX9_countFitsAround_113 : decode cX9_countFitsAround 113 = .ok (.iinc 4 1, 3) := by decide +kernel
theorem dX9_countFitsAround_116 : decode cX9_countFitsAround 116 = .ok (.goto (-81), 3) := by decide +kernel
theorem dX9_countFitsAround_119 : decode cX9_countFitsAround 119 = .ok (.iload_n 3, 1) := by decide +kernel
theorem dX9_countFitsAround_120 : decode cX9_countFitsAround 120 = .ok (.ireturn, 1) := by decide +kernel
theorem k_X9_countFitsAround : cardV yX9_countFitsAround (Cond.code yX9_countFitsAround cX9_countFitsAround 6 (some .int)) 0 := ⟨⟨qi_X9_countFitsAround, qv_X9_countFitsAround⟩, qc_X9_countFitsAround, qn_X9, by decide +kernel, by decide +kernel, by decide +kernel⟩
set_option maxHeartbeats 4000000 in
set_option maxRecDepth 100000 in
theorem c_X9_countFitsAround (l : Launch) (D : va_G) (g : Nat → ClassId) (q_this q_houses q_halls q_posts q_blocks q_kinds q_posts_cells q_posts_tolds : Nat) (f_hour : Int32) (f_day : Int32) (f_prankHouse : Int32) (f_bells : Int32) (f_echoes : Int32) (f_bellPranks : Int32) (f_posts_size : Int32) (a_posts_cells : Nat → Int32) (a_posts_tolds : Nat → Int32) (a_blocks : Nat → Int32) (o : Int32) (h : F_X9_countFitsAround f_posts_size a_posts_cells a_posts_tolds a_blocks = some o) : MR l yX9_countFitsAround (Cond.code yX9_countFitsAround cX9_countFitsAround 6 (some .int)) { frames := 5, cells := 0, slots := 0, locals := 127 } D g [.ref q_this] [(q_this, .inr (9, [.ref q_houses, .ref q_halls, .ref q_posts, .ref q_blocks, .ref q_kinds, .int f_hour, .int f_day, .int f_prankHouse, .int f_bells, .int f_echoes, .int f_bellPranks])), (q_posts, .inr (6, [.int f_posts_size, .ref q_posts_cells, .ref q_posts_tolds])), (q_posts_cells, .inl (g 0, 4, .inl a_posts_cells)), (q_posts_tolds, .inl (g 0, 4, .inl a_posts_tolds)), (q_blocks, .inl (g 0, 64, .inl a_blocks))] (some (.int o)) := by
  refine z_rd_start (by decide) (Nat.le_of_ble_eq_true rfl) ?_
  intro p e s m args below meth c Q X hr hQ
  refine z_lv (lv' := [(0, .ref q_this)]) rfl ?_
  have H35 : ∀ (n : Nat) (x1 : Int32) (x2 : Int32) (x3 : Int32) (x4 : Int32), L_X9_countFitsAround_35 f_posts_size a_posts_cells a_posts_tolds a_blocks  n x1 x2 x3 x4 = some o → Z p l e { frames := 5, cells := 0, slots := 0, locals := 127 } s m args below meth c Q 6 0 0 (IR D [(q_this, .inr (9, [.ref q_houses, .ref q_halls, .ref q_posts, .ref q_blocks, .ref q_kinds, .int f_hour, .int f_day, .int f_prankHouse, .int f_bells, .int f_echoes, .int f_bellPranks])), (q_posts, .inr (6, [.int f_posts_size, .ref q_posts_cells, .ref q_posts_tolds])), (q_posts_cells, .inl (g 0, 4, .inl a_posts_cells)), (q_posts_tolds, .inl (g 0, 4, .inl a_posts_tolds)), (q_blocks, .inl (g 0, 64, .inl a_blocks))] s) 35 [(0, .ref q_this), (1, .int x1), (2, .int x2), (3, .int x3), (4, .int x4)] [] := by
    intro n
    induction n with
    | zero => intro x1 x2 x3 x4 h; cases h
    | succ n35 ih35 =>
      intro x1 x2 x3 x4 h
      have H111 : ∀ (t0 : Int32) (t1 : Int32) (x1 : Int32) (x2 : Int32) (x4 : Int32), J_X9_countFitsAround_111 f_posts_size a_posts_cells a_posts_tolds a_blocks (L_X9_countFitsAround_35 f_posts_size a_posts_cells a_posts_tolds a_blocks n35) t0 t1 x1 x2 x4 = some o → Z p l e { frames := 5, cells := 0, slots := 0, locals := 127 } s m args below meth c Q 6 0 0 (IR D [(q_this, .inr (9, [.ref q_houses, .ref q_halls, .ref q_posts, .ref q_blocks, .ref q_kinds, .int f_hour, .int f_day, .int f_prankHouse, .int f_bells, .int f_echoes, .int f_bellPranks])), (q_posts, .inr (6, [.int f_posts_size, .ref q_posts_cells, .ref q_posts_tolds])), (q_posts_cells, .inl (g 0, 4, .inl a_posts_cells)), (q_posts_tolds, .inl (g 0, 4, .inl a_posts_tolds)), (q_blocks, .inl (g 0, 64, .inl a_blocks))] s) 111 [(0, .ref q_this), (1, .int x1), (2, .int x2), (4, .int x4)] [.int t0, .int t1] := by
        intro t0 t1 x1 x2 x4 h
        refine z_iadd X dX9_countFitsAround_111 ?_
        refine z_istore_n X [(3, .int (t1 + t0)), (0, .ref q_this), (1, .int x1), (2, .int x2), (4, .int x4)] dX9_countFitsAround_112 rfl (by decide) rfl ?_
        refine z_iinc X 4 [(4, .int (x4 + 1)), (3, .int (t1 + t0)), (0, .ref q_this), (1, .int x1), (2, .int x2)] dX9_countFitsAround_113 rfl rfl (by decide) rfl ?_
        refine z_goto X 35 dX9_countFitsAround_116 (by decide) ?_
        refine z_sub (lv' := [(0, .ref q_this), (1, .int x1), (2, .int x2), (3, .int (t1 + t0)), (4, .int (x4 + 1))]) [2, 3, 4, 1, 0] rfl ?_
        exact ih35 x1 x2 (t1 + t0) (x4 + 1) h
      have H86 : ∀ (t0 : Int32) (t1 : Int32) (x1 : Int32) (x2 : Int32) (x4 : Int32) (x5 : Int32), J_X9_countFitsAround_86 f_posts_size a_posts_cells a_posts_tolds a_blocks (L_X9_countFitsAround_35 f_posts_size a_posts_cells a_posts_tolds a_blocks n35) t0 t1 x1 x2 x4 x5 = some o → Z p l e { frames := 5, cells := 0, slots := 0, locals := 127 } s m args below meth c Q 6 0 0 (IR D [(q_this, .inr (9, [.ref q_houses, .ref q_halls, .ref q_posts, .ref q_blocks, .ref q_kinds, .int f_hour, .int f_day, .int f_prankHouse, .int f_bells, .int f_echoes, .int f_bellPranks])), (q_posts, .inr (6, [.int f_posts_size, .ref q_posts_cells, .ref q_posts_tolds])), (q_posts_cells, .inl (g 0, 4, .inl a_posts_cells)), (q_posts_tolds, .inl (g 0, 4, .inl a_posts_tolds)), (q_blocks, .inl (g 0, 64, .inl a_blocks))] s) 86 [(0, .ref q_this), (1, .int x1), (2, .int x2), (4, .int x4), (5, .int x5)] [.int t0, .int t1] := by
        intro t0 t1 x1 x2 x4 x5 h
        refine z_iadd X dX9_countFitsAround_86 ?_
        refine z_istore_n X [(3, .int (t1 + t0)), (0, .ref q_this), (1, .int x1), (2, .int x2), (4, .int x4), (5, .int x5)] dX9_countFitsAround_87 rfl (by decide) rfl ?_
        refine z_iload_n X 0 dX9_countFitsAround_88 rfl rfl ?_
        refine z_iload X 5 dX9_countFitsAround_89 rfl ?_
        refine z_if_le X 110 dX9_countFitsAround_91 (by decide) h (fun _ h => ?_) (fun _ h => ?_)
        · refine z_iconst X (0 : Int32) dX9_countFitsAround_110 (by decide) ?_
          refine z_sub (lv' := [(0, .ref q_this), (1, .int x1), (2, .int x2), (4, .int x4)]) [1, 2, 3, 4] rfl ?_
          exact H111 (0 : Int32) (t1 + t0) x1 x2 x4 h
        · refine z_aload_n X 1 dX9_countFitsAround_94 rfl rfl ?_
          refine z_iload X 4 dX9_countFitsAround_95 rfl ?_
          refine z_iload_n X 3 dX9_countFitsAround_97 rfl rfl ?_
          obtain ⟨o11, e12, h⟩ := bnd_p h
          refine z_rdS (rest := [.int x4, .ref q_this, .int (t1 + t0)]) X IR_P k_X0_columnOf (c_X0_columnOf l D g x2 o11 e12) ql_X9_X0_columnOf dX9_countFitsAround_98 [] rfl rfl rfl ⟨Nat.le_of_ble_eq_true rfl, Nat.le_of_ble_eq_true rfl, rfl, rfl, Nat.le_of_ble_eq_true rfl, Nat.le_of_ble_eq_true rfl⟩ (Nat.le_of_ble_eq_true rfl) ?_
          refine z_iload X 5 dX9_countFitsAround_101 rfl ?_
          refine z_isub X dX9_countFitsAround_103 ?_
          obtain ⟨o13, e14, h⟩ := bnd_p h
          refine z_rdV (rest := [.int (t1 + t0)]) (q0 := 0) (ci := 9) X IR_P k_X9_countFit (c_X9_countFit l D g q_this q_houses q_halls q_posts q_blocks q_kinds q_posts_cells q_posts_tolds x4 (o11 - x5) f_hour f_day f_prankHouse f_bells f_echoes f_bellPranks f_posts_size a_posts_cells a_posts_tolds a_blocks o13 e14) ql_X9_X9_countFit dX9_countFitsAround_104 [0, 1, 2, 3, 4] rfl rfl rfl rfl rfl rfl ⟨Nat.le_of_ble_eq_true rfl, Nat.le_of_ble_eq_true rfl, rfl, rfl, Nat.le_of_ble_eq_true rfl, Nat.le_of_ble_eq_true rfl⟩ (Nat.le_of_ble_eq_true rfl) ?_
          refine z_goto X 111 dX9_countFitsAround_107 (by decide) ?_
          refine z_sub (lv' := [(0, .ref q_this), (1, .int x1), (2, .int x2), (4, .int x4)]) [1, 2, 3, 4] rfl ?_
          exact H111 o13 (t1 + t0) x1 x2 x4 h
      refine z_iload X 4 dX9_countFitsAround_35 rfl ?_
      refine z_bipush X (8 : Int32) dX9_countFitsAround_37 (by decide) ?_
      refine z_icmp_ge X 119 dX9_countFitsAround_39 (by decide) h (fun _ h => ?_) (fun _ h => ?_)
      · refine z_iload_n X 3 dX9_countFitsAround_119 rfl rfl ?_
        exact z_iretR X hQ hr dX9_countFitsAround_120 h
      · refine z_aload_n X 0 dX9_countFitsAround_42 rfl rfl ?_
        refine z_get (q0 := 0) (k := 2) (ci := 9) X IR_P iw_X9 rfl qf_X9_X9_posts (by decide) dX9_countFitsAround_43 rfl rfl ?_
        refine z_iload_n X 1 dX9_countFitsAround_46 rfl rfl ?_
        obtain ⟨o7, e8, h⟩ := bnd_p h
        refine z_rdV (rest := []) (q0 := 1) (ci := 6) X IR_P k_X5_toldAt (c_X5_toldAt l D g q_posts q_posts_cells q_posts_tolds x1 f_posts_size a_posts_tolds o7 e8) ql_X9_X5_toldAt dX9_countFitsAround_47 [1, 3] rfl rfl rfl rfl rfl rfl ⟨Nat.le_of_ble_eq_true rfl, Nat.le_of_ble_eq_true rfl, rfl, rfl, Nat.le_of_ble_eq_true rfl, Nat.le_of_ble_eq_true rfl⟩ (Nat.le_of_ble_eq_true rfl) ?_
        refine z_iload X 4 dX9_countFitsAround_50 rfl ?_
        refine z_iload_n X 2 dX9_countFitsAround_52 rfl rfl ?_
        obtain ⟨o9, e10, h⟩ := bnd_p h
        refine z_rdS (rest := [.int x4, .int o7]) X IR_P k_X0_rowOf (c_X0_rowOf l D g x2 o9 e10) ql_X9_X0_rowOf dX9_countFitsAround_53 [] rfl rfl rfl ⟨Nat.le_of_ble_eq_true rfl, Nat.le_of_ble_eq_true rfl, rfl, rfl, Nat.le_of_ble_eq_true rfl, Nat.le_of_ble_eq_true rfl⟩ (Nat.le_of_ble_eq_true rfl) ?_
        refine z_isub X dX9_countFitsAround_56 ?_
        refine z_mabs X ql_X9_mabs dX9_countFitsAround_57 (Nat.le_of_ble_eq_true rfl) (Nat.le_of_ble_eq_true rfl) (Nat.le_of_ble_eq_true rfl) (Nat.le_of_ble_eq_true rfl) ?_
        refine z_isub X dX9_countFitsAround_60 ?_
        refine z_istore X [(5, .int (o7 - (if 0 ≤ (x4 - o9) then (x4 - o9) else 0 - (x4 - o9)))), (0, .ref q_this), (1, .int x1), (2, .int x2), (3, .int x3), (4, .int x4)] dX9_countFitsAround_61 (by decide) rfl ?_
        refine z_iload_n X 4 dX9_countFitsAround_63 rfl rfl ?_
        refine z_iload X 0 dX9_countFitsAround_64 rfl ?_
        refine z_if_lt X 85 dX9_countFitsAround_66 (by decide) h (fun _ h => ?_) (fun _ h => ?_)
        · refine z_iconst X (0 : Int32) dX9_countFitsAround_85 (by decide) ?_
          refine z_sub (lv' := [(0, .ref q_this), (1, .int x1), (2, .int x2), (4, .int x4), (5, .int (o7 - (if 0 ≤ (x4 - o9) then (x4 - o9) else 0 - (x4 - o9))))]) [1, 2, 3, 5, 0] rfl ?_
          exact H86 (0 : Int32) x3 x1 x2 x4 (o7 - (if 0 ≤ (x4 - o9) then (x4 - o9) else 0 - (x4 - o9))) h
        · refine z_aload_n X 1 dX9_countFitsAround_69 rfl rfl ?_
          refine z_iload X 5 dX9_countFitsAround_70 rfl ?_
          refine z_iload_n X 3 dX9_countFitsAround_72 rfl rfl ?_
          obtain ⟨o15, e16, h⟩ := bnd_p h
          refine z_rdS (rest := [.int x4, .ref q_this, .int x3]) X IR_P k_X0_columnOf (c_X0_columnOf l D g x2 o15 e16) ql_X9_X0_columnOf dX9_countFitsAround_73 [] rfl rfl rfl ⟨Nat.le_of_ble_eq_true rfl, Nat.le_of_ble_eq_true rfl, rfl, rfl, Nat.le_of_ble_eq_true rfl, Nat.le_of_ble_eq_true rfl⟩ (Nat.le_of_ble_eq_true rfl) ?_
          refine z_iload X 0 dX9_countFitsAround_76 rfl ?_
          refine z_iadd X dX9_countFitsAround_78 ?_
          obtain ⟨o17, e18, h⟩ := bnd_p h
          refine z_rdV (rest := [.int x3]) (q0 := 0) (ci := 9) X IR_P k_X9_countFit (c_X9_countFit l D g q_this q_houses q_halls q_posts q_blocks q_kinds q_posts_cells q_posts_tolds x4 (o15 + (o7 - (if 0 ≤ (x4 - o9) then (x4 - o9) else 0 - (x4 - o9)))) f_hour f_day f_prankHouse f_bells f_echoes f_bellPranks f_posts_size a_posts_cells a_posts_tolds a_blocks o17 e18) ql_X9_X9_countFit dX9_countFitsAround_79 [0, 1, 2, 3, 4] rfl rfl rfl rfl rfl rfl ⟨Nat.le_of_ble_eq_true rfl, Nat.le_of_ble_eq_true rfl, rfl, rfl, Nat.le_of_ble_eq_true rfl, Nat.le_of_ble_eq_true rfl⟩ (Nat.le_of_ble_eq_true rfl) ?_
          refine z_goto X 86 dX9_countFitsAround_82 (by decide) ?_
          refine z_sub (lv' := [(0, .ref q_this), (1, .int x1), (2, .int x2), (4, .int x4), (5, .int (o7 - (if 0 ≤ (x4 - o9) then (x4 - o9) else 0 - (x4 - o9))))]) [1, 2, 3, 5, 0] rfl ?_
          exact H86 o17 x3 x1 x2 x4 (o7 - (if 0 ≤ (x4 - o9) then (x4 - o9) else 0 - (x4 - o9))) h
  refine z_aload_n X 0 dX9_countFitsAround_0 rfl rfl ?_
  refine z_get (q0 := 0) (k := 2) (ci := 9) X IR_P iw_X9 rfl qf_X9_X9_posts (by decide) dX9_countFitsAround_1 rfl rfl ?_
  obtain ⟨o1, e2, h⟩ := bnd_p h
  refine z_rdV (rest := []) (q0 := 1) (ci := 6) X IR_P k_X5_firstTeller (c_X5_firstTeller l D g q_posts q_posts_cells q_posts_tolds f_posts_size a_posts_tolds o1 e2) ql_X9_X5_firstTeller dX9_countFitsAround_4 [1, 3] rfl rfl rfl rfl rfl rfl ⟨Nat.le_of_ble_eq_true rfl, Nat.le_of_ble_eq_true rfl, rfl, rfl, Nat.le_of_ble_eq_true rfl, Nat.le_of_ble_eq_true rfl⟩ (Nat.le_of_ble_eq_true rfl) ?_
  refine z_istore_n X [(1, .int o1), (0, .ref q_this)] dX9_countFitsAround_7 rfl (by decide) rfl ?_
  refine z_iload_n X 0 dX9_countFitsAround_8 rfl rfl ?_
  refine z_iconst X ((-1) : Int32) dX9_countFitsAround_9 (by decide) ?_
  refine z_icmp_ne X 21 dX9_countFitsAround_10 (by decide) h (fun _ h => ?_) (fun _ h => ?_)
  · refine z_bipush X (64 : Int32) dX9_countFitsAround_13 (by decide) ?_
    refine z_aload_n X 1 dX9_countFitsAround_15 rfl rfl ?_
    obtain ⟨o3, e4, h⟩ := bnd_p h
    refine z_rdV (rest := [.int (64 : Int32)]) (q0 := 0) (ci := 9) X IR_P k_X9_countBlocks (c_X9_countBlocks l D g q_this q_houses q_halls q_posts q_blocks q_kinds f_hour f_day f_prankHouse f_bells f_echoes f_bellPranks a_blocks o3 e4) ql_X9_X9_countBlocks dX9_countFitsAround_16 [0, 4] rfl rfl rfl rfl rfl rfl ⟨Nat.le_of_ble_eq_true rfl, Nat.le_of_ble_eq_true rfl, rfl, rfl, Nat.le_of_ble_eq_true rfl, Nat.le_of_ble_eq_true rfl⟩ (Nat.le_of_ble_eq_true rfl) ?_
    refine z_isub X dX9_countFitsAround_19 ?_
    exact z_iretR X hQ hr dX9_countFitsAround_20 h
  · refine z_aload_n X 1 dX9_countFitsAround_21 rfl rfl ?_
    refine z_get (q0 := 0) (k := 2) (ci := 9) X IR_P iw_X9 rfl qf_X9_X9_posts (by decide) dX9_countFitsAround_22 rfl rfl ?_
    refine z_iload_n X 0 dX9_countFitsAround_25 rfl rfl ?_
    obtain ⟨o5, e6, h⟩ := bnd_p h
    refine z_rdV (rest := []) (q0 := 1) (ci := 6) X IR_P k_X5_cellAt (c_X5_cellAt l D g q_posts q_posts_cells q_posts_tolds o1 f_posts_size a_posts_cells o5 e6) ql_X9_X5_cellAt dX9_countFitsAround_26 [1, 2] rfl rfl rfl rfl rfl rfl ⟨Nat.le_of_ble_eq_true rfl, Nat.le_of_ble_eq_true rfl, rfl, rfl, Nat.le_of_ble_eq_true rfl, Nat.le_of_ble_eq_true rfl⟩ (Nat.le_of_ble_eq_true rfl) ?_
    refine z_istore_n X [(2, .int o5), (1, .int o1), (0, .ref q_this)] dX9_countFitsAround_29 rfl (by decide) rfl ?_
    refine z_iconst X (0 : Int32) dX9_countFitsAround_30 (by decide) ?_
    refine z_istore_n X [(3, .int (0 : Int32)), (2, .int o5), (1, .int o1), (0, .ref q_this)] dX9_countFitsAround_31 rfl (by decide) rfl ?_
    refine z_iconst X (0 : Int32) dX9_countFitsAround_32 (by decide) ?_
    refine z_istore X [(4, .int (0 : Int32)), (3, .int (0 : Int32)), (2, .int o5), (1, .int o1), (0, .ref q_this)] dX9_countFitsAround_33 (by decide) rfl ?_
    refine z_sub (lv' := [(0, .ref q_this), (1, .int o1), (2, .int o5), (3, .int (0 : Int32)), (4, .int (0 : Int32))]) [4, 3, 2, 1, 0] rfl ?_
    exact H35 100 o1 o5 (0 : Int32) (0 : Int32) h

def L_X9_fitAt_4 (p1 : Int32) (f_posts_size : Int32) (a_posts_cells : Nat → Int32) (a_posts_tolds : Nat → Int32) (a_blocks : Nat → Int32) : Nat → Int32 → Int32 → Option (Int32)
  | 0, _, _ => none
  | _n + 1, x2, x3 =>
    brn ((64 : Int32) ≤ x3) (some (((-1) : Int32))) (bnd (F_X9_canBeFrom x3 f_posts_size a_posts_cells a_posts_tolds a_blocks) (fun o1 => brn (o1 = 0) (L_X9_fitAt_4 p1 f_posts_size a_posts_cells a_posts_tolds a_blocks _n x2 (x3 + 1)) (brn (x2 = p1) (some (x3)) (L_X9_fitAt_4 p1 f_posts_size a_posts_cells a_posts_tolds a_blocks _n (x2 + 1) (x3 + 1)))))

def F_X9_fitAt (p1 : Int32) (f_posts_size : Int32) (a_posts_cells : Nat → Int32) (a_posts_tolds : Nat → Int32) (a_blocks : Nat → Int32) : Option (Int32) :=
  L_X9_fitAt_4 p1 f_posts_size a_posts_cells a_posts_tolds a_blocks 100 (0 : Int32) (0 : Int32)
theorem dX9_fitAt_0 : decode cX9_fitAt 0 = .ok (.iconst 0, 1) := by decide +kernel
theorem dX9_fitAt_1 : decode cX9_fitAt 1 = .ok (.istore_n 2, 1) := by decide +kernel
theorem dX9_fitAt_2 : decode cX9_fitAt 2 = .ok (.iconst 0, 1) := by decide +kernel
theorem dX9_fitAt_3 : decode cX9_fitAt 3 = .ok (.istore_n 3, 1) := by decide +kernel
theorem dX9_fitAt_4 : decode cX9_fitAt 4 = .ok (.iload_n 3, 1) := by decide +kernel
theorem dX9_fitAt_5 : decode cX9_fitAt 5 = .ok (.bipush 64, 2) := by decide +kernel
theorem dX9_fitAt_7 : decode cX9_fitAt 7 = .ok (.if_icmp .ge 27, 3) := by decide +kernel
theorem dX9_fitAt_10 : decode cX9_fitAt 10 = .ok (.aload_n 0, 1) := by decide +kernel
theorem dX9_fitAt_11 : decode cX9_fitAt 11 = .ok (.iload_n 3, 1) := by decide +kernel
theorem dX9_fitAt_12 : decode cX9_fitAt 12 = .ok (.invokevirtual 192, 3) := by decide +kernel
theorem dX9_fitAt_15 : decode cX9_fitAt 15 = .ok (.ifCond .eq 13, 3) := by decide +kernel
theorem dX9_fitAt_18 : decode cX9_fitAt 18 = .ok (.iload_n 2, 1) := by decide +kernel
theorem dX9_fitAt_19 : decode cX9_fitAt 19 = .ok (.iload_n 1, 1) := by decide +kernel
theorem dX9_fitAt_20 : decode cX9_fitAt 20 = .ok (.if_icmp .ne 5, 3) := by decide +kernel
theorem dX9_fitAt_23 : decode cX9_fitAt 23 = .ok (.iload_n 3, 1) := by decide +kernel
theorem dX9_fitAt_24 : decode cX9_fitAt 24 = .ok (.ireturn, 1) := by decide +kernel
theorem dX9_fitAt_25 : decode cX9_fitAt 25 = .ok (.iinc 2 1, 3) := by decide +kernel
theorem dX9_fitAt_28 : decode cX9_fitAt 28 = .ok (.iinc 3 1, 3) := by decide +kernel
theorem dX9_fitAt_31 : decode cX9_fitAt 31 = .ok (.goto (-27), 3) := by decide +kernel
theorem dX9_fitAt_34 : decode cX9_fitAt 34 = .ok (.iconst (-1), 1) := by decide +kernel
theorem dX9_fitAt_35 : decode cX9_fitAt 35 = .ok (.ireturn, 1) := by decide +kernel
theorem k_X9_fitAt : cardV yX9_fitAt (Cond.code yX9_fitAt cX9_fitAt 4 (some .int)) 1 := ⟨⟨qi_X9_fitAt, qv_X9_fitAt⟩, qc_X9_fitAt, qn_X9, by decide +kernel, by decide +kernel, by decide +kernel⟩
set_option maxHeartbeats 4000000 in
set_option maxRecDepth 100000 in
theorem c_X9_fitAt (l : Launch) (D : va_G) (g : Nat → ClassId) (q_this q_houses q_halls q_posts q_blocks q_kinds q_posts_cells q_posts_tolds : Nat) (p1 : Int32) (f_hour : Int32) (f_day : Int32) (f_prankHouse : Int32) (f_bells : Int32) (f_echoes : Int32) (f_bellPranks : Int32) (f_posts_size : Int32) (a_posts_cells : Nat → Int32) (a_posts_tolds : Nat → Int32) (a_blocks : Nat → Int32) (o : Int32) (h : F_X9_fitAt p1 f_posts_size a_posts_cells a_posts_tolds a_blocks = some o) : MR l yX9_fitAt (Cond.code yX9_fitAt cX9_fitAt 4 (some .int)) { frames := 4, cells := 0, slots := 0, locals := 104 } D g [.ref q_this, .int p1] [(q_this, .inr (9, [.ref q_houses, .ref q_halls, .ref q_posts, .ref q_blocks, .ref q_kinds, .int f_hour, .int f_day, .int f_prankHouse, .int f_bells, .int f_echoes, .int f_bellPranks])), (q_posts, .inr (6, [.int f_posts_size, .ref q_posts_cells, .ref q_posts_tolds])), (q_posts_cells, .inl (g 0, 4, .inl a_posts_cells)), (q_posts_tolds, .inl (g 0, 4, .inl a_posts_tolds)), (q_blocks, .inl (g 0, 64, .inl a_blocks))] (some (.int o)) := by
  refine z_rd_start (by decide) (Nat.le_of_ble_eq_true rfl) ?_
  intro p e s m args below meth c Q X hr hQ
  refine z_lv (lv' := [(0, .ref q_this), (1, .int p1)]) rfl ?_
  have H4 : ∀ (n : Nat) (x2 : Int32) (x3 : Int32), L_X9_fitAt_4 p1 f_posts_size a_posts_cells a_posts_tolds a_blocks  n x2 x3 = some o → Z p l e { frames := 4, cells := 0, slots := 0, locals := 104 } s m args below meth c Q 4 0 0 (IR D [(q_this, .inr (9, [.ref q_houses, .ref q_halls, .ref q_posts, .ref q_blocks, .ref q_kinds, .int f_hour, .int f_day, .int f_prankHouse, .int f_bells, .int f_echoes, .int f_bellPranks])), (q_posts, .inr (6, [.int f_posts_size, .ref q_posts_cells, .ref q_posts_tolds])), (q_posts_cells, .inl (g 0, 4, .inl a_posts_cells)), (q_posts_tolds, .inl (g 0, 4, .inl a_posts_tolds)), (q_blocks, .inl (g 0, 64, .inl a_blocks))] s) 4 [(0, .ref q_this), (1, .int p1), (2, .int x2), (3, .int x3)] [] := by
    intro n
    induction n with
    | zero => intro x2 x3 h; cases h
    | succ n4 ih4 =>
      intro x2 x3 h
      refine z_iload_n X 3 dX9_fitAt_4 rfl rfl ?_
      refine z_bipush X (64 : Int32) dX9_fitAt_5 (by decide) ?_
      refine z_icmp_ge X 34 dX9_fitAt_7 (by decide) h (fun _ h => ?_) (fun _ h => ?_)
      · refine z_iconst X ((-1) : Int32) dX9_fitAt_34 (by decide) ?_
        exact z_iretR X hQ hr dX9_fitAt_35 h
      · refine z_aload_n X 0 dX9_fitAt_10 rfl rfl ?_
        refine z_iload_n X 3 dX9_fitAt_11 rfl rfl ?_
        obtain ⟨o1, e2, h⟩ := bnd_p h
        refine z_rdV (rest := []) (q0 := 0) (ci := 9) X IR_P k_X9_canBeFrom (c_X9_canBeFrom l D g q_this q_houses q_halls q_posts q_blocks q_kinds q_posts_cells q_posts_tolds x3 f_hour f_day f_prankHouse f_bells f_echoes f_bellPranks f_posts_size a_posts_cells a_posts_tolds a_blocks o1 e2) ql_X9_X9_canBeFrom dX9_fitAt_12 [0, 1, 2, 3, 4] rfl rfl rfl rfl rfl rfl ⟨Nat.le_of_ble_eq_true rfl, Nat.le_of_ble_eq_true rfl, rfl, rfl, Nat.le_of_ble_eq_true rfl, Nat.le_of_ble_eq_true rfl⟩ (Nat.le_of_ble_eq_true rfl) ?_
        refine z_if_eq X 28 dX9_fitAt_15 (by decide) h (fun _ h => ?_) (fun _ h => ?_)
        · refine z_iinc X 3 [(3, .int (x3 + 1)), (0, .ref q_this), (1, .int p1), (2, .int x2)] dX9_fitAt_28 rfl rfl (by decide) rfl ?_
          refine z_goto X 4 dX9_fitAt_31 (by decide) ?_
          refine z_sub (lv' := [(0, .ref q_this), (1, .int p1), (2, .int x2), (3, .int (x3 + 1))]) [1, 2, 3, 0] rfl ?_
          exact ih4 x2 (x3 + 1) h
        · refine z_iload_n X 2 dX9_fitAt_18 rfl rfl ?_
          refine z_iload_n X 1 dX9_fitAt_19 rfl rfl ?_
          refine z_icmp_ne X 25 dX9_fitAt_20 (by decide) h (fun _ h => ?_) (fun _ h => ?_)
          · refine z_iload_n X 3 dX9_fitAt_23 rfl rfl ?_
            exact z_iretR X hQ hr dX9_fitAt_24 h
          · refine z_iinc X 2 [(2, .int (x2 + 1)), (0, .ref q_this), (1, .int p1), (3, .int x3)] dX9_fitAt_25 rfl rfl (by decide) rfl ?_
            refine z_iinc X 3 [(3, .int (x3 + 1)), (2, .int (x2 + 1)), (0, .ref q_this), (1, .int p1)] dX9_fitAt_28 rfl rfl (by decide) rfl ?_
            refine z_goto X 4 dX9_fitAt_31 (by decide) ?_
            refine z_sub (lv' := [(0, .ref q_this), (1, .int p1), (2, .int (x2 + 1)), (3, .int (x3 + 1))]) [2, 3, 1, 0] rfl ?_
            exact ih4 (x2 + 1) (x3 + 1) h
  refine z_iconst X (0 : Int32) dX9_fitAt_0 (by decide) ?_
  refine z_istore_n X [(2, .int (0 : Int32)), (0, .ref q_this), (1, .int p1)] dX9_fitAt_1 rfl (by decide) rfl ?_
  refine z_iconst X (0 : Int32) dX9_fitAt_2 (by decide) ?_
  refine z_istore_n X [(3, .int (0 : Int32)), (2, .int (0 : Int32)), (0, .ref q_this), (1, .int p1)] dX9_fitAt_3 rfl (by decide) rfl ?_
  refine z_sub (lv' := [(0, .ref q_this), (1, .int p1), (2, .int (0 : Int32)), (3, .int (0 : Int32))]) [2, 3, 1, 0] rfl ?_
  exact H4 100 (0 : Int32) (0 : Int32) h

def L_X10_clear_2 (n_p0 : Nat) : Nat → Int32 → (Nat → Int32) → Option ((Nat → Int32))
  | 0, _, _ => none
  | _n + 1, x1, a_p0 =>
    brn ((Int32.ofNat n_p0) ≤ x1) (some (a_p0)) (grd (inb x1 n_p0) (L_X10_clear_2 n_p0 _n (x1 + 1) (upd a_p0 x1.toNatClampNeg ((-1) : Int32))))

def F_X10_clear (n_p0 : Nat) (a_p0 : Nat → Int32) : Option ((Nat → Int32)) :=
  L_X10_clear_2 n_p0 100 (0 : Int32) a_p0
theorem dX10_clear_0 : decode cX10_clear 0 = .ok (.iconst 0, 1) := by decide +kernel
theorem dX10_clear_1 : decode cX10_clear 1 = .ok (.istore_n 1, 1) := by decide +kernel
theorem dX10_clear_2 : decode cX10_clear 2 = .ok (.iload_n 1, 1) := by decide +kernel
theorem dX10_clear_3 : decode cX10_clear 3 = .ok (.aload_n 0, 1) := by decide +kernel
theorem dX10_clear_4 : decode cX10_clear 4 = .ok (.arraylength, 1) := by decide +kernel
theorem dX10_clear_5 : decode cX10_clear 5 = .ok (.if_icmp .ge 13, 3) := by decide +kernel
theorem dX10_clear_8 : decode cX10_clear 8 = .ok (.aload_n 0, 1) := by decide +kernel
theorem dX10_clear_9 : decode cX10_clear 9 = .ok (.iload_n 1, 1) := by decide +kernel
theorem dX10_clear_10 : decode cX10_clear 10 = .ok (.iconst (-1), 1) := by decide +kernel
theorem dX10_clear_11 : decode cX10_clear 11 = .ok (.iastore, 1) := by decide +kernel
theorem dX10_clear_12 : decode cX10_clear 12 = .ok (.iinc 1 1, 3) := by decide +kernel
theorem dX10_clear_15 : decode cX10_clear 15 = .ok (.goto (-13), 3) := by decide +kernel
theorem dX10_clear_18 : decode cX10_clear 18 = .ok (.return_, 1) := by decide +kernel
theorem k_X10_clear : cardS yX10_clear (Cond.code yX10_clear cX10_clear 2 none) 1 := ⟨qs_X10_clear, qc_X10_clear, qn_X10, by decide +kernel, by decide +kernel, by decide +kernel⟩
set_option maxHeartbeats 4000000 in
set_option maxRecDepth 100000 in
theorem c_X10_clear (l : Launch) (D : va_G) (g : Nat → ClassId) (q_p0 : Nat) (n_p0 : Nat) (a_p0 : Nat → Int32) (o : (Nat → Int32)) (h : F_X10_clear n_p0 a_p0 = some o) : MW l yX10_clear (Cond.code yX10_clear cX10_clear 2 none) { frames := 0, cells := 0, slots := 0, locals := 0 } D g [.ref q_p0] [(q_p0, .inl (g 0, n_p0, .inl a_p0))] none [(q_p0, .inl (g 0, n_p0, .inl o))] := by
  refine z_wr_start (by decide) (Nat.le_of_ble_eq_true rfl) ?_
  intro p e s m args below meth c Q A X hr hQ hA
  refine z_lv (lv' := [(0, .ref q_p0)]) rfl ?_
  have H2 : ∀ (n : Nat) (x1 : Int32) (a_p0 : Nat → Int32), L_X10_clear_2 n_p0  n x1 a_p0 = some o → Z p l e { frames := 0, cells := 0, slots := 0, locals := 0 } s m args below meth c Q 2 0 0 (IW D A s [(q_p0, .inl (g 0, n_p0, .inl a_p0))]) 2 [(0, .ref q_p0), (1, .int x1)] [] := by
    intro n
    induction n with
    | zero => intro x1 a_p0 h; cases h
    | succ n2 ih2 =>
      intro x1 a_p0 h
      refine z_iload_n X 1 dX10_clear_2 rfl rfl ?_
      refine z_aload_n X 0 dX10_clear_3 rfl rfl ?_
      refine z_alen (q0 := 0) (v := Int32.ofNat n_p0) X IW_P 0 dX10_clear_4 rfl rfl rfl ?_
      refine z_icmp_ge X 18 dX10_clear_5 (by decide) h (fun _ h => ?_) (fun _ h => ?_)
      · cases h
        exact z_vretW X hQ hA hr dX10_clear_18
      · refine z_aload_n X 0 dX10_clear_8 rfl rfl ?_
        refine z_iload_n X 1 dX10_clear_9 rfl rfl ?_
        refine z_iconst X ((-1) : Int32) dX10_clear_10 (by decide) ?_
        refine z_iast (q0 := 0) (ws' := [(q_p0, .inl (g 0, n_p0, .inl (upd a_p0 x1.toNatClampNeg ((-1) : Int32))))]) X dX10_clear_11 rfl h rfl (fun h => ?_)
        refine z_iinc X 1 [(1, .int (x1 + 1)), (0, .ref q_p0)] dX10_clear_12 rfl rfl (by decide) rfl ?_
        refine z_goto X 2 dX10_clear_15 (by decide) ?_
        refine z_sub (lv' := [(0, .ref q_p0), (1, .int (x1 + 1))]) [1, 0] rfl ?_
        exact ih2 (x1 + 1) (upd a_p0 x1.toNatClampNeg ((-1) : Int32)) h
  refine z_iconst X (0 : Int32) dX10_clear_0 (by decide) ?_
  refine z_istore_n X [(1, .int (0 : Int32)), (0, .ref q_p0)] dX10_clear_1 rfl (by decide) rfl ?_
  refine z_sub (lv' := [(0, .ref q_p0), (1, .int (0 : Int32))]) [1, 0] rfl ?_
  exact H2 100 (0 : Int32) a_p0 h

def J_X0_nextTo_38 (p0 : Int32) (p1 : Int32) (t0 : Int32) (x2 : Int32) : Option (Int32) :=
  bnd (F_X0_rowOf p0) (fun o1 => bnd (F_X0_columnOf p0) (fun o3 => bnd (F_X0_cellAt (o1 + x2) (o3 + t0)) (fun o5 => some (o5))))

def J_X0_nextTo_18 (p0 : Int32) (p1 : Int32) (t0 : Int32) : Option (Int32) :=
  brn (p1 = (2 : Int32)) (J_X0_nextTo_38 p0 p1 ((-1) : Int32) t0) (brn (p1 = (3 : Int32)) (J_X0_nextTo_38 p0 p1 (1 : Int32) t0) (J_X0_nextTo_38 p0 p1 (0 : Int32) t0))

def F_X0_nextTo (p0 : Int32) (p1 : Int32) : Option (Int32) :=
  brn (p1 = 0) (J_X0_nextTo_18 p0 p1 ((-1) : Int32)) (brn (p1 = (1 : Int32)) (J_X0_nextTo_18 p0 p1 (1 : Int32)) (J_X0_nextTo_18 p0 p1 (0 : Int32)))
theorem dX0_nextTo_0 : decode cX0_nextTo 0 = .ok (.iload_n 1, 1) := by decide +kernel
theorem dX0_nextTo_1 : decode cX0_nextTo 1 = .ok (.ifCond .ne 7, 3) := by decide +kernel
theorem dX0_nextTo_4 : decode cX0_nextTo 4 = .ok (.iconst (-1), 1) := by decide +kernel
theorem dX0_nextTo_5 : decode cX0_nextTo 5 = .ok (.goto 13, 3) := by decide +kernel
theorem dX0_nextTo_8 : decode cX0_nextTo 8 = .ok (.iload_n 1, 1) := by decide +kernel
theorem dX0_nextTo_9 : decode cX0_nextTo 9 = .ok (.iconst 1, 1) := by decide +kernel
theorem dX0_nextTo_10 : decode cX0_nextTo 10 = .ok (.if_icmp .ne 7, 3) := by decide +kernel
theorem dX0_nextTo_13 : decode cX0_nextTo 13 = .ok (.iconst 1, 1) := by decide +kernel
theorem dX0_nextTo_14 : decode cX0_nextTo 14 = .ok (.goto 4, 3) := by decide +kernel
theorem dX0_nextTo_17 : decode cX0_nextTo 17 = .ok (.iconst 0, 1) := by decide +kernel
theorem dX0_nextTo_18 : decode cX0_nextTo 18 = .ok (.istore_n 2, 1) := by decide +kernel
theorem dX0_nextTo_19 : decode cX0_nextTo 19 = .ok (.iload_n 1, 1) := by decide +kernel
theorem dX0_nextTo_20 : decode cX0_nextTo 20 = .ok (.iconst 2, 1) := by decide +kernel
theorem dX0_nextTo_21 : decode cX0_nextTo 21 = .ok (.if_icmp .ne 7, 3) := by decide +kernel
theorem dX0_nextTo_24 : decode cX0_nextTo 24 = .ok (.iconst (-1), 1) := by decide +kernel
theorem dX0_nextTo_25 : decode cX0_nextTo 25 = .ok (.goto 13, 3) := by decide +kernel
theorem dX0_nextTo_28 : decode cX0_nextTo 28 = .ok (.iload_n 1, 1) := by decide +kernel
theorem dX0_nextTo_29 : decode cX0_nextTo 29 = .ok (.iconst 3, 1) := by decide +kernel
theorem dX0_nextTo_30 : decode cX0_nextTo 30 = .ok (.if_icmp .ne 7, 3) := by decide +kernel
theorem dX0_nextTo_33 : decode cX0_nextTo 33 = .ok (.iconst 1, 1) := by decide +kernel
theorem dX0_nextTo_34 : decode cX0_nextTo 34 = .ok (.goto 4, 3) := by decide +kernel
theorem dX0_nextTo_37 : decode cX0_nextTo 37 = .ok (.iconst 0, 1) := by decide +kernel
theorem dX0_nextTo_38 : decode cX0_nextTo 38 = .ok (.istore_n 3, 1) := by decide +kernel
theorem dX0_nextTo_39 : decode cX0_nextTo 39 = .ok (.iload_n 0, 1) := by decide +kernel
theorem dX0_nextTo_40 : decode cX0_nextTo 40 = .ok (.invokestatic 17, 3) := by decide +kernel
theorem dX0_nextTo_43 : decode cX0_nextTo 43 = .ok (.iload_n 2, 1) := by decide +kernel
theorem dX0_nextTo_44 : decode cX0_nextTo 44 = .ok (.iadd, 1) := by decide +kernel
theorem dX0_nextTo_45 : decode cX0_nextTo 45 = .ok (.iload_n 0, 1) := by decide +kernel
theorem dX0_nextTo_46 : decode cX0_nextTo 46 = .ok (.invokestatic 28, 3) := by decide +kernel
theorem dX0_nextTo_49 : decode cX0_nextTo 49 = .ok (.iload_n 3, 1) := by decide +kernel
theorem dX0_nextTo_50 : decode cX0_nextTo 50 = .ok (.iadd, 1) := by decide +kernel
theorem dX0_nextTo_51 : decode cX0_nextTo 51 = .ok (.invokestatic 31, 3) := by decide +kernel
theorem dX0_nextTo_54 : decode cX0_nextTo 54 = .ok (.ireturn, 1) := by decide +kernel
theorem k_X0_nextTo : cardS yX0_nextTo (Cond.code yX0_nextTo cX0_nextTo 4 (some .int)) 2 := ⟨qs_X0_nextTo, qc_X0_nextTo, qn_X0, by decide +kernel, by decide +kernel, by decide +kernel⟩
set_option maxHeartbeats 4000000 in
set_option maxRecDepth 100000 in
theorem c_X0_nextTo (l : Launch) (D : va_G) (g : Nat → ClassId) (p0 p1 : Int32) (o : Int32) (h : F_X0_nextTo p0 p1 = some o) : MR l yX0_nextTo (Cond.code yX0_nextTo cX0_nextTo 4 (some .int)) { frames := 3, cells := 0, slots := 0, locals := 63 } D g [.int p0, .int p1] [] (some (.int o)) := by
  refine z_rd_start (by decide) (Nat.le_of_ble_eq_true rfl) ?_
  intro p e s m args below meth c Q X hr hQ
  refine z_lv (lv' := [(0, .int p0), (1, .int p1)]) rfl ?_
  have H38 : ∀ (t0 : Int32) (x2 : Int32), J_X0_nextTo_38 p0 p1 t0 x2 = some o → Z p l e { frames := 3, cells := 0, slots := 0, locals := 63 } s m args below meth c Q 4 0 0 (IR D [] s) 38 [(0, .int p0), (2, .int x2)] [.int t0] := by
    intro t0 x2 h
    refine z_istore_n X [(3, .int t0), (0, .int p0), (2, .int x2)] dX0_nextTo_38 rfl (by decide) rfl ?_
    refine z_iload_n X 1 dX0_nextTo_39 rfl rfl ?_
    obtain ⟨o1, e2, h⟩ := bnd_p h
    refine z_rdS (rest := []) X IR_P k_X0_rowOf (c_X0_rowOf l D g p0 o1 e2) ql_X0_X0_rowOf dX0_nextTo_40 [] rfl rfl rfl ⟨Nat.le_of_ble_eq_true rfl, Nat.le_of_ble_eq_true rfl, rfl, rfl, Nat.le_of_ble_eq_true rfl, Nat.le_of_ble_eq_true rfl⟩ (Nat.le_of_ble_eq_true rfl) ?_
    refine z_iload_n X 2 dX0_nextTo_43 rfl rfl ?_
    refine z_iadd X dX0_nextTo_44 ?_
    refine z_iload_n X 1 dX0_nextTo_45 rfl rfl ?_
    obtain ⟨o3, e4, h⟩ := bnd_p h
    refine z_rdS (rest := [.int (o1 + x2)]) X IR_P k_X0_columnOf (c_X0_columnOf l D g p0 o3 e4) ql_X0_X0_columnOf dX0_nextTo_46 [] rfl rfl rfl ⟨Nat.le_of_ble_eq_true rfl, Nat.le_of_ble_eq_true rfl, rfl, rfl, Nat.le_of_ble_eq_true rfl, Nat.le_of_ble_eq_true rfl⟩ (Nat.le_of_ble_eq_true rfl) ?_
    refine z_iload_n X 0 dX0_nextTo_49 rfl rfl ?_
    refine z_iadd X dX0_nextTo_50 ?_
    obtain ⟨o5, e6, h⟩ := bnd_p h
    refine z_rdS (rest := []) X IR_P k_X0_cellAt (c_X0_cellAt l D g (o1 + x2) (o3 + t0) o5 e6) ql_X0_X0_cellAt dX0_nextTo_51 [] rfl rfl rfl ⟨Nat.le_of_ble_eq_true rfl, Nat.le_of_ble_eq_true rfl, rfl, rfl, Nat.le_of_ble_eq_true rfl, Nat.le_of_ble_eq_true rfl⟩ (Nat.le_of_ble_eq_true rfl) ?_
    exact z_iretR X hQ hr dX0_nextTo_54 h
  have H18 : ∀ (t0 : Int32), J_X0_nextTo_18 p0 p1 t0 = some o → Z p l e { frames := 3, cells := 0, slots := 0, locals := 63 } s m args below meth c Q 4 0 0 (IR D [] s) 18 [(0, .int p0), (1, .int p1)] [.int t0] := by
    intro t0 h
    refine z_istore_n X [(2, .int t0), (0, .int p0), (1, .int p1)] dX0_nextTo_18 rfl (by decide) rfl ?_
    refine z_iload_n X 2 dX0_nextTo_19 rfl rfl ?_
    refine z_iconst X (2 : Int32) dX0_nextTo_20 (by decide) ?_
    refine z_icmp_ne X 28 dX0_nextTo_21 (by decide) h (fun _ h => ?_) (fun _ h => ?_)
    · refine z_iconst X ((-1) : Int32) dX0_nextTo_24 (by decide) ?_
      refine z_goto X 38 dX0_nextTo_25 (by decide) ?_
      refine z_sub (lv' := [(0, .int p0), (2, .int t0)]) [1, 0] rfl ?_
      exact H38 ((-1) : Int32) t0 h
    · refine z_iload_n X 2 dX0_nextTo_28 rfl rfl ?_
      refine z_iconst X (3 : Int32) dX0_nextTo_29 (by decide) ?_
      refine z_icmp_ne X 37 dX0_nextTo_30 (by decide) h (fun _ h => ?_) (fun _ h => ?_)
      · refine z_iconst X (1 : Int32) dX0_nextTo_33 (by decide) ?_
        refine z_goto X 38 dX0_nextTo_34 (by decide) ?_
        refine z_sub (lv' := [(0, .int p0), (2, .int t0)]) [1, 0] rfl ?_
        exact H38 (1 : Int32) t0 h
      · refine z_iconst X (0 : Int32) dX0_nextTo_37 (by decide) ?_
        refine z_sub (lv' := [(0, .int p0), (2, .int t0)]) [1, 0] rfl ?_
        exact H38 (0 : Int32) t0 h
  refine z_iload_n X 1 dX0_nextTo_0 rfl rfl ?_
  refine z_if_ne X 8 dX0_nextTo_1 (by decide) h (fun _ h => ?_) (fun _ h => ?_)
  · refine z_iconst X ((-1) : Int32) dX0_nextTo_4 (by decide) ?_
    refine z_goto X 18 dX0_nextTo_5 (by decide) ?_
    exact H18 ((-1) : Int32) h
  · refine z_iload_n X 1 dX0_nextTo_8 rfl rfl ?_
    refine z_iconst X (1 : Int32) dX0_nextTo_9 (by decide) ?_
    refine z_icmp_ne X 17 dX0_nextTo_10 (by decide) h (fun _ h => ?_) (fun _ h => ?_)
    · refine z_iconst X (1 : Int32) dX0_nextTo_13 (by decide) ?_
      refine z_goto X 18 dX0_nextTo_14 (by decide) ?_
      exact H18 (1 : Int32) h
    · refine z_iconst X (0 : Int32) dX0_nextTo_17 (by decide) ?_
      exact H18 (0 : Int32) h

def J_X10_lowerFrom_51 (p2 : Int32) (p3 : Int32) (a_p1_blocks : Nat → Int32) (x4 : Int32) (a_lows : Nat → Int32) : Option (Int32 × (Nat → Int32)) :=
  bnd (F_X7_put 64 p3 (x4 + (1 : Int32)) a_lows) (fun o7 => some ((1 : Int32), o7))

def F_X10_lowerFrom (p2 : Int32) (p3 : Int32) (a_p1_blocks : Nat → Int32) (a_lows : Nat → Int32) : Option (Int32 × (Nat → Int32)) :=
  bnd (F_X7_at 64 p2 a_lows) (fun o1 => bnd (F_X7_at 64 p3 a_lows) (fun o3 => brn (o1 = ((-1) : Int32)) (some ((0 : Int32), a_lows)) (bnd (F_X9_isBlocked p3 a_p1_blocks) (fun o5 => brn (o5 = 0) (brn (o3 = ((-1) : Int32)) (J_X10_lowerFrom_51 p2 p3 a_p1_blocks o1 a_lows) (brn ((o1 + (1 : Int32)) < o3) (J_X10_lowerFrom_51 p2 p3 a_p1_blocks o1 a_lows) (some ((0 : Int32), a_lows)))) (some ((0 : Int32), a_lows))))))
theorem dX10_lowerFrom_0 : decode cX10_lowerFrom 0 = .ok (.aload_n 0, 1) := by decide +kernel
theorem dX10_lowerFrom_1 : decode cX10_lowerFrom 1 = .ok (.getfield 18, 3) := by decide +kernel
theorem dX10_lowerFrom_4 : decode cX10_lowerFrom 4 = .ok (.iload_n 2, 1) := by decide +kernel
theorem dX10_lowerFrom_5 : decode cX10_lowerFrom 5 = .ok (.invokestatic 35, 3) := by decide +kernel
theorem dX10_lowerFrom_8 : decode cX10_lowerFrom 8 = .ok (.istore 4, 2) := by decide +kernel
theorem dX10_lowerFrom_10 : decode cX10_lowerFrom 10 = .ok (.aload_n 0, 1) := by decide +kernel
theorem dX10_lowerFrom_11 : decode cX10_lowerFrom 11 = .ok (.getfield 18, 3) := by decide +kernel
theorem dX10_lowerFrom_14 : decode cX10_lowerFrom 14 = .ok (.iload_n 3, 1) := by decide +kernel
theorem dX10_lowerFrom_15 : decode cX10_lowerFrom 15 = .ok (.invokestatic 35, 3) := by decide +kernel
theorem dX10_lowerFrom_18 : decode cX10_lowerFrom 18 = .ok (.istore 5, 2) := by decide +kernel
theorem dX10_lowerFrom_20 : decode cX10_lowerFrom 20 = .ok (.iload 4, 2) := by decide +kernel
theorem dX10_lowerFrom_22 : decode cX10_lowerFrom 22 = .ok (.iconst (-1), 1) := by decide +kernel
theorem dX10_lowerFrom_23 : decode cX10_lowerFrom 23 = .ok (.if_icmp .eq 26, 3) := by decide +kernel
theorem dX10_lowerFrom_26 : decode cX10_lowerFrom 26 = .ok (.aload_n 1, 1) := by decide +kernel
theorem dX10_lowerFrom_27 : decode cX10_lowerFrom 27 = .ok (.iload_n 3, 1) := by decide +kernel
theorem dX10_lowerFrom_28 : decode cX10_lowerFrom 28 = .ok (.invokevirtual 78, 3) := by decide +kernel
theorem dX10_lowerFrom_31 : decode cX10_lowerFrom 31 = .ok (.ifCond .ne 18, 3) := by decide +kernel
theorem dX10_lowerFrom_34 : decode cX10_lowerFrom 34 = .ok (.iload 5, 2) := by decide +kernel
theorem dX10_lowerFrom_36 : decode cX10_lowerFrom 36 = .ok (.iconst (-1), 1) := by decide +kernel
theorem dX10_lowerFrom_37 : decode cX10_lowerFrom 37 = .ok (.if_icmp .eq 14, 3) := by decide +kernel
theorem dX10_lowerFrom_40 : decode cX10_lowerFrom 40 = .ok (.iload 5, 2) := by decide +kernel
theorem dX10_lowerFrom_42 : decode cX10_lowerFrom 42 = .ok (.iload 4, 2) := by decide +kernel
theorem dX10_lowerFrom_44 : decode cX10_lowerFrom 44 = .ok (.iconst 1, 1) := by decide +kernel
theorem dX10_lowerFrom_45 : decode cX10_lowerFrom 45 = .ok (.iadd, 1) := by decide +kernel
theorem dX10_lowerFrom_46 : decode cX10_lowerFrom 46 = .ok (.if_icmp .gt 5, 3) := by decide +kernel
theorem dX10_lowerFrom_49 : decode cX10_lowerFrom 49 = .ok (.iconst 0, 1) := by decide +kernel
theorem dX10_lowerFrom_50 : decode cX10_lowerFrom 50 = .ok (.ireturn, 1) := by decide +kernel
theorem dX10_lowerFrom_51 : decode cX10_lowerFrom 51 = .ok (.aload_n 0, 1) := by decide +kernel
theorem dX10_lowerFrom_52 : decode cX10_lowerFrom 52 = .ok (.getfield 18, 3) := by decide +kernel
theorem dX10_lowerFrom_55 : decode cX10_lowerFrom 55 = .ok (.iload_n 3, 1) := by decide +kernel
theorem dX10_lowerFrom_56 : decode cX10_lowerFrom 56 = .ok (.iload 4, 2) := by decide +kernel
theorem dX10_lowerFrom_58 : decode cX10_lowerFrom 58 = .ok (.iconst 1, 1) := by decide +kernel
theorem dX10_lowerFrom_59 : decode cX10_lowerFrom 59 = .ok (.iadd, 1) := by decide +kernel
theorem dX10_lowerFrom_60 : decode cX10_lowerFrom 60 = .ok (.invokestatic 68, 3) := by decide +kernel
theorem dX10_lowerFrom_63 : decode cX10_lowerFrom 63 = .ok (.iconst 1, 1) := by decide +kernel
theorem dX10_lowerFrom_64 : decode cX10_lowerFrom 64 = .ok (.ireturn, 1) := by decide +kernel
theorem k_X10_lowerFrom : cardV yX10_lowerFrom (Cond.code yX10_lowerFrom cX10_lowerFrom 6 (some .boolean)) 3 := ⟨⟨qi_X10_lowerFrom, qv_X10_lowerFrom⟩, qc_X10_lowerFrom, qn_X10, by decide +kernel, by decide +kernel, by decide +kernel⟩
set_option maxHeartbeats 4000000 in
set_option maxRecDepth 100000 in
theorem c_X10_lowerFrom (l : Launch) (D : va_G) (g : Nat → ClassId) (q_this q_steps q_queue q_lows q_stops q_p1 q_p1_houses q_p1_halls q_p1_posts q_p1_blocks q_p1_kinds : Nat) (p2 p3 : Int32) (f_stopCount : Int32) (f_stepSum : Int32) (a_lows : Nat → Int32) (f_p1_hour : Int32) (f_p1_day : Int32) (f_p1_prankHouse : Int32) (f_p1_bells : Int32) (f_p1_echoes : Int32) (f_p1_bellPranks : Int32) (a_p1_blocks : Nat → Int32) (o : Int32 × (Nat → Int32)) (h : F_X10_lowerFrom p2 p3 a_p1_blocks a_lows = some o) : MW l yX10_lowerFrom (Cond.code yX10_lowerFrom cX10_lowerFrom 6 (some .boolean)) { frames := 2, cells := 0, slots := 0, locals := 42 } D g [.ref q_this, .ref q_p1, .int p2, .int p3] [(q_this, .inr (10, [.ref q_steps, .ref q_queue, .ref q_lows, .ref q_stops, .int f_stopCount, .int f_stepSum])), (q_lows, .inl (g 0, 64, .inl a_lows)), (q_p1, .inr (9, [.ref q_p1_houses, .ref q_p1_halls, .ref q_p1_posts, .ref q_p1_blocks, .ref q_p1_kinds, .int f_p1_hour, .int f_p1_day, .int f_p1_prankHouse, .int f_p1_bells, .int f_p1_echoes, .int f_p1_bellPranks])), (q_p1_blocks, .inl (g 0, 64, .inl a_p1_blocks))] (some (.int o.1)) [(q_this, .inr (10, [.ref q_steps, .ref q_queue, .ref q_lows, .ref q_stops, .int f_stopCount, .int f_stepSum])), (q_lows, .inl (g 0, 64, .inl o.2)), (q_p1, .inr (9, [.ref q_p1_houses, .ref q_p1_halls, .ref q_p1_posts, .ref q_p1_blocks, .ref q_p1_kinds, .int f_p1_hour, .int f_p1_day, .int f_p1_prankHouse, .int f_p1_bells, .int f_p1_echoes, .int f_p1_bellPranks])), (q_p1_blocks, .inl (g 0, 64, .inl a_p1_blocks))] := by
  refine z_wr_start (by decide) (Nat.le_of_ble_eq_true rfl) ?_
  intro p e s m args below meth c Q A X hr hQ hA
  refine z_lv (lv' := [(0, .ref q_this), (1, .ref q_p1), (2, .int p2), (3, .int p3)]) rfl ?_
  have H51 : ∀ (x4 : Int32) (a_lows : Nat → Int32), J_X10_lowerFrom_51 p2 p3 a_p1_blocks x4 a_lows = some o → Z p l e { frames := 2, cells := 0, slots := 0, locals := 42 } s m args below meth c Q 6 0 0 (IW D A s [(q_this, .inr (10, [.ref q_steps, .ref q_queue, .ref q_lows, .ref q_stops, .int f_stopCount, .int f_stepSum])), (q_lows, .inl (g 0, 64, .inl a_lows)), (q_p1, .inr (9, [.ref q_p1_houses, .ref q_p1_halls, .ref q_p1_posts, .ref q_p1_blocks, .ref q_p1_kinds, .int f_p1_hour, .int f_p1_day, .int f_p1_prankHouse, .int f_p1_bells, .int f_p1_echoes, .int f_p1_bellPranks])), (q_p1_blocks, .inl (g 0, 64, .inl a_p1_blocks))]) 51 [(0, .ref q_this), (3, .int p3), (4, .int x4)] [] := by
    intro x4 a_lows h
    refine z_aload_n X 0 dX10_lowerFrom_51 rfl rfl ?_
    refine z_get (q0 := 0) (k := 2) (ci := 10) X IW_P iw_X10 rfl qf_X10_X10_lows (by decide) dX10_lowerFrom_52 rfl rfl ?_
    refine z_iload_n X 1 dX10_lowerFrom_55 rfl rfl ?_
    refine z_iload X 2 dX10_lowerFrom_56 rfl ?_
    refine z_iconst X (1 : Int32) dX10_lowerFrom_58 (by decide) ?_
    refine z_iadd X dX10_lowerFrom_59 ?_
    obtain ⟨o7, e8, h⟩ := bnd_p h
    refine z_wrS (rest := []) (ws' := [(q_this, .inr (10, [.ref q_steps, .ref q_queue, .ref q_lows, .ref q_stops, .int f_stopCount, .int f_stepSum])), (q_lows, .inl (g 0, 64, .inl o7)), (q_p1, .inr (9, [.ref q_p1_houses, .ref q_p1_halls, .ref q_p1_posts, .ref q_p1_blocks, .ref q_p1_kinds, .int f_p1_hour, .int f_p1_day, .int f_p1_prankHouse, .int f_p1_bells, .int f_p1_echoes, .int f_p1_bellPranks])), (q_p1_blocks, .inl (g 0, 64, .inl a_p1_blocks))]) (wr := [(q_this, .inr (10, [.ref q_steps, .ref q_queue, .ref q_lows, .ref q_stops, .int f_stopCount, .int f_stepSum])), (q_p1, .inr (9, [.ref q_p1_houses, .ref q_p1_halls, .ref q_p1_posts, .ref q_p1_blocks, .ref q_p1_kinds, .int f_p1_hour, .int f_p1_day, .int f_p1_prankHouse, .int f_p1_bells, .int f_p1_echoes, .int f_p1_bellPranks])), (q_p1_blocks, .inl (g 0, 64, .inl a_p1_blocks))]) (as := [q_this, q_lows, q_p1, q_p1_blocks]) X k_X7_put (c_X7_put l D g q_lows 64 p3 (x4 + (1 : Int32)) a_lows o7 e8) ql_X10_X7_put dX10_lowerFrom_60 [1] [0, 2, 3] ⟨rfl, rfl, rfl, rfl, rfl, rfl, rfl, rfl⟩ rfl rfl ⟨Nat.le_of_ble_eq_true rfl, Nat.le_of_ble_eq_true rfl, rfl, rfl, Nat.le_of_ble_eq_true rfl, Nat.le_of_ble_eq_true rfl⟩ (Nat.le_of_ble_eq_true rfl) ?_
    refine z_iconst X (1 : Int32) dX10_lowerFrom_63 (by decide) ?_
    cases h
    exact z_zretW X hQ hA hr dX10_lowerFrom_64 rfl
  refine z_aload_n X 0 dX10_lowerFrom_0 rfl rfl ?_
  refine z_get (q0 := 0) (k := 2) (ci := 10) X IW_P iw_X10 rfl qf_X10_X10_lows (by decide) dX10_lowerFrom_1 rfl rfl ?_
  refine z_iload_n X 2 dX10_lowerFrom_4 rfl rfl ?_
  obtain ⟨o1, e2, h⟩ := bnd_p h
  refine z_rdS (rest := []) X IW_P k_X7_at (c_X7_at l D g q_lows 64 p2 a_lows o1 e2) ql_X10_X7_at dX10_lowerFrom_5 [1] rfl rfl rfl ⟨Nat.le_of_ble_eq_true rfl, Nat.le_of_ble_eq_true rfl, rfl, rfl, Nat.le_of_ble_eq_true rfl, Nat.le_of_ble_eq_true rfl⟩ (Nat.le_of_ble_eq_true rfl) ?_
  refine z_istore X [(4, .int o1), (0, .ref q_this), (1, .ref q_p1), (2, .int p2), (3, .int p3)] dX10_lowerFrom_8 (by decide) rfl ?_
  refine z_aload_n X 1 dX10_lowerFrom_10 rfl rfl ?_
  refine z_get (q0 := 0) (k := 2) (ci := 10) X IW_P iw_X10 rfl qf_X10_X10_lows (by decide) dX10_lowerFrom_11 rfl rfl ?_
  refine z_iload_n X 4 dX10_lowerFrom_14 rfl rfl ?_
  obtain ⟨o3, e4, h⟩ := bnd_p h
  refine z_rdS (rest := []) X IW_P k_X7_at (c_X7_at l D g q_lows 64 p3 a_lows o3 e4) ql_X10_X7_at dX10_lowerFrom_15 [1] rfl rfl rfl ⟨Nat.le_of_ble_eq_true rfl, Nat.le_of_ble_eq_true rfl, rfl, rfl, Nat.le_of_ble_eq_true rfl, Nat.le_of_ble_eq_true rfl⟩ (Nat.le_of_ble_eq_true rfl) ?_
  refine z_istore X [(5, .int o3), (4, .int o1), (0, .ref q_this), (1, .ref q_p1), (2, .int p2), (3, .int p3)] dX10_lowerFrom_18 (by decide) rfl ?_
  refine z_iload X 1 dX10_lowerFrom_20 rfl ?_
  refine z_iconst X ((-1) : Int32) dX10_lowerFrom_22 (by decide) ?_
  refine z_icmp_eq X 49 dX10_lowerFrom_23 (by decide) h (fun _ h => ?_) (fun _ h => ?_)
  · refine z_iconst X (0 : Int32) dX10_lowerFrom_49 (by decide) ?_
    cases h
    exact z_zretW X hQ hA hr dX10_lowerFrom_50 rfl
  · refine z_aload_n X 3 dX10_lowerFrom_26 rfl rfl ?_
    refine z_iload_n X 5 dX10_lowerFrom_27 rfl rfl ?_
    obtain ⟨o5, e6, h⟩ := bnd_p h
    refine z_rdV (rest := []) (q0 := 2) (ci := 9) X IW_P k_X9_isBlocked (c_X9_isBlocked l D g q_p1 q_p1_houses q_p1_halls q_p1_posts q_p1_blocks q_p1_kinds p3 f_p1_hour f_p1_day f_p1_prankHouse f_p1_bells f_p1_echoes f_p1_bellPranks a_p1_blocks o5 e6) ql_X10_X9_isBlocked dX10_lowerFrom_28 [2, 3] rfl rfl rfl rfl rfl rfl ⟨Nat.le_of_ble_eq_true rfl, Nat.le_of_ble_eq_true rfl, rfl, rfl, Nat.le_of_ble_eq_true rfl, Nat.le_of_ble_eq_true rfl⟩ (Nat.le_of_ble_eq_true rfl) ?_
    refine z_if_ne X 49 dX10_lowerFrom_31 (by decide) h (fun _ h => ?_) (fun _ h => ?_)
    · refine z_iload X 0 dX10_lowerFrom_34 rfl ?_
      refine z_iconst X ((-1) : Int32) dX10_lowerFrom_36 (by decide) ?_
      refine z_icmp_eq X 51 dX10_lowerFrom_37 (by decide) h (fun _ h => ?_) (fun _ h => ?_)
      · refine z_sub (lv' := [(0, .ref q_this), (3, .int p3), (4, .int o1)]) [2, 5, 1] rfl ?_
        exact H51 o1 a_lows h
      · refine z_iload X 0 dX10_lowerFrom_40 rfl ?_
        refine z_iload X 1 dX10_lowerFrom_42 rfl ?_
        refine z_iconst X (1 : Int32) dX10_lowerFrom_44 (by decide) ?_
        refine z_iadd X dX10_lowerFrom_45 ?_
        refine z_icmp_gt X 51 dX10_lowerFrom_46 (by decide) h (fun _ h => ?_) (fun _ h => ?_)
        · refine z_sub (lv' := [(0, .ref q_this), (3, .int p3), (4, .int o1)]) [2, 5, 1] rfl ?_
          exact H51 o1 a_lows h
        · refine z_iconst X (0 : Int32) dX10_lowerFrom_49 (by decide) ?_
          cases h
          exact z_zretW X hQ hA hr dX10_lowerFrom_50 rfl
    · refine z_iconst X (0 : Int32) dX10_lowerFrom_49 (by decide) ?_
      cases h
      exact z_zretW X hQ hA hr dX10_lowerFrom_50 rfl

def F_X10_lowerAlong (p2 : Int32) (p3 : Int32) (a_p1_blocks : Nat → Int32) (a_lows : Nat → Int32) : Option (Int32 × (Nat → Int32)) :=
  brn (p3 = ((-1) : Int32)) (some ((0 : Int32), a_lows)) (bnd (F_X10_lowerFrom p2 p3 a_p1_blocks a_lows) (fun o1 => bnd (F_X10_lowerFrom p3 p2 a_p1_blocks o1.2) (fun o3 => brn (o1.1 = 0) (brn (o3.1 = 0) (some ((0 : Int32), o3.2)) (some ((1 : Int32), o3.2))) (some ((1 : Int32), o3.2)))))
theorem dX10_lowerAlong_0 : decode cX10_lowerAlong 0 = .ok (.iload_n 3, 1) := by decide +kernel
theorem dX10_lowerAlong_1 : decode cX10_lowerAlong 1 = .ok (.iconst (-1), 1) := by decide +kernel
theorem dX10_lowerAlong_2 : decode cX10_lowerAlong 2 = .ok (.if_icmp .ne 5, 3) := by decide +kernel
theorem dX10_lowerAlong_5 : decode cX10_lowerAlong 5 = .ok (.iconst 0, 1) := by decide +kernel
theorem dX10_lowerAlong_6 : decode cX10_lowerAlong 6 = .ok (.ireturn, 1) := by decide +kernel
theorem dX10_lowerAlong_7 : decode cX10_lowerAlong 7 = .ok (.aload_n 0, 1) := by decide +kernel
theorem dX10_lowerAlong_8 : decode cX10_lowerAlong 8 = .ok (.aload_n 1, 1) := by decide +kernel
theorem dX10_lowerAlong_9 : decode cX10_lowerAlong 9 = .ok (.iload_n 2, 1) := by decide +kernel
theorem dX10_lowerAlong_10 : decode cX10_lowerAlong 10 = .ok (.iload_n 3, 1) := by decide +kernel
theorem dX10_lowerAlong_11 : decode cX10_lowerAlong 11 = .ok (.invokevirtual 85, 3) := by decide +kernel
theorem dX10_lowerAlong_14 : decode cX10_lowerAlong 14 = .ok (.istore 4, 2) := by decide +kernel
theorem dX10_lowerAlong_16 : decode cX10_lowerAlong 16 = .ok (.aload_n 0, 1) := by decide +kernel
theorem dX10_lowerAlong_17 : decode cX10_lowerAlong 17 = .ok (.aload_n 1, 1) := by decide +kernel
theorem dX10_lowerAlong_18 : decode cX10_lowerAlong 18 = .ok (.iload_n 3, 1) := by decide +kernel
theorem dX10_lowerAlong_19 : decode cX10_lowerAlong 19 = .ok (.iload_n 2, 1) := by decide +kernel
theorem dX10_lowerAlong_20 : decode cX10_lowerAlong 20 = .ok (.invokevirtual 85, 3) := by decide +kernel
theorem dX10_lowerAlong_23 : decode cX10_lowerAlong 23 = .ok (.istore 5, 2) := by decide +kernel
theorem dX10_lowerAlong_25 : decode cX10_lowerAlong 25 = .ok (.iload 4, 2) := by decide +kernel
theorem dX10_lowerAlong_27 : decode cX10_lowerAlong 27 = .ok (.ifCond .ne 8, 3) := by decide +kernel
theorem dX10_lowerAlong_30 : decode cX10_lowerAlong 30 = .ok (.iload 5, 2) := by decide +kernel
theorem dX10_lowerAlong_32 : decode cX10_lowerAlong 32 = .ok (.ifCond .eq 7, 3) := by decide +kernel
theorem dX10_lowerAlong_35 : decode cX10_lowerAlong 35 = .ok (.iconst 1, 1) := by decide +kernel
theorem dX10_lowerAlong_36 : decode cX10_lowerAlong 36 = .ok (.goto 4, 3) := by decide +kernel
theorem dX10_lowerAlong_39 : decode cX10_lowerAlong 39 = .ok (.iconst 0, 1) := by decide +kernel
theorem dX10_lowerAlong_40 : decode cX10_lowerAlong 40 = .ok (.ireturn, 1) := by decide +kernel
theorem k_X10_lowerAlong : cardV yX10_lowerAlong (Cond.code yX10_lowerAlong cX10_lowerAlong 6 (some .boolean)) 3 := ⟨⟨qi_X10_lowerAlong, qv_X10_lowerAlong⟩, qc_X10_lowerAlong, qn_X10, by decide +kernel, by decide +kernel, by decide +kernel⟩
set_option maxHeartbeats 4000000 in
set_option maxRecDepth 100000 in
theorem c_X10_lowerAlong (l : Launch) (D : va_G) (g : Nat → ClassId) (q_this q_steps q_queue q_lows q_stops q_p1 q_p1_houses q_p1_halls q_p1_posts q_p1_blocks q_p1_kinds : Nat) (p2 p3 : Int32) (f_stopCount : Int32) (f_stepSum : Int32) (a_lows : Nat → Int32) (f_p1_hour : Int32) (f_p1_day : Int32) (f_p1_prankHouse : Int32) (f_p1_bells : Int32) (f_p1_echoes : Int32) (f_p1_bellPranks : Int32) (a_p1_blocks : Nat → Int32) (o : Int32 × (Nat → Int32)) (h : F_X10_lowerAlong p2 p3 a_p1_blocks a_lows = some o) : MW l yX10_lowerAlong (Cond.code yX10_lowerAlong cX10_lowerAlong 6 (some .boolean)) { frames := 3, cells := 0, slots := 0, locals := 67 } D g [.ref q_this, .ref q_p1, .int p2, .int p3] [(q_this, .inr (10, [.ref q_steps, .ref q_queue, .ref q_lows, .ref q_stops, .int f_stopCount, .int f_stepSum])), (q_lows, .inl (g 0, 64, .inl a_lows)), (q_p1, .inr (9, [.ref q_p1_houses, .ref q_p1_halls, .ref q_p1_posts, .ref q_p1_blocks, .ref q_p1_kinds, .int f_p1_hour, .int f_p1_day, .int f_p1_prankHouse, .int f_p1_bells, .int f_p1_echoes, .int f_p1_bellPranks])), (q_p1_blocks, .inl (g 0, 64, .inl a_p1_blocks))] (some (.int o.1)) [(q_this, .inr (10, [.ref q_steps, .ref q_queue, .ref q_lows, .ref q_stops, .int f_stopCount, .int f_stepSum])), (q_lows, .inl (g 0, 64, .inl o.2)), (q_p1, .inr (9, [.ref q_p1_houses, .ref q_p1_halls, .ref q_p1_posts, .ref q_p1_blocks, .ref q_p1_kinds, .int f_p1_hour, .int f_p1_day, .int f_p1_prankHouse, .int f_p1_bells, .int f_p1_echoes, .int f_p1_bellPranks])), (q_p1_blocks, .inl (g 0, 64, .inl a_p1_blocks))] := by
  refine z_wr_start (by decide) (Nat.le_of_ble_eq_true rfl) ?_
  intro p e s m args below meth c Q A X hr hQ hA
  refine z_lv (lv' := [(0, .ref q_this), (1, .ref q_p1), (2, .int p2), (3, .int p3)]) rfl ?_
  refine z_iload_n X 3 dX10_lowerAlong_0 rfl rfl ?_
  refine z_iconst X ((-1) : Int32) dX10_lowerAlong_1 (by decide) ?_
  refine z_icmp_ne X 7 dX10_lowerAlong_2 (by decide) h (fun _ h => ?_) (fun _ h => ?_)
  · refine z_iconst X (0 : Int32) dX10_lowerAlong_5 (by decide) ?_
    cases h
    exact z_zretW X hQ hA hr dX10_lowerAlong_6 rfl
  · refine z_aload_n X 0 dX10_lowerAlong_7 rfl rfl ?_
    refine z_aload_n X 1 dX10_lowerAlong_8 rfl rfl ?_
    refine z_iload_n X 2 dX10_lowerAlong_9 rfl rfl ?_
    refine z_iload_n X 3 dX10_lowerAlong_10 rfl rfl ?_
    obtain ⟨o1, e2, h⟩ := bnd_p h
    refine z_wrV (rest := []) (q0 := 0) (ci := 10) (ws' := [(q_this, .inr (10, [.ref q_steps, .ref q_queue, .ref q_lows, .ref q_stops, .int f_stopCount, .int f_stepSum])), (q_lows, .inl (g 0, 64, .inl o1.2)), (q_p1, .inr (9, [.ref q_p1_houses, .ref q_p1_halls, .ref q_p1_posts, .ref q_p1_blocks, .ref q_p1_kinds, .int f_p1_hour, .int f_p1_day, .int f_p1_prankHouse, .int f_p1_bells, .int f_p1_echoes, .int f_p1_bellPranks])), (q_p1_blocks, .inl (g 0, 64, .inl a_p1_blocks))]) (wr := []) (as := [q_this, q_lows, q_p1, q_p1_blocks]) X k_X10_lowerFrom (c_X10_lowerFrom l D g q_this q_steps q_queue q_lows q_stops q_p1 q_p1_houses q_p1_halls q_p1_posts q_p1_blocks q_p1_kinds p2 p3 f_stopCount f_stepSum a_lows f_p1_hour f_p1_day f_p1_prankHouse f_p1_bells f_p1_echoes f_p1_bellPranks a_p1_blocks o1 e2) ql_X10_X10_lowerFrom dX10_lowerAlong_11 [0, 1, 2, 3] [] ⟨rfl, rfl, rfl, rfl, rfl, rfl, rfl, rfl⟩ rfl rfl rfl rfl rfl ⟨Nat.le_of_ble_eq_true rfl, Nat.le_of_ble_eq_true rfl, rfl, rfl, Nat.le_of_ble_eq_true rfl, Nat.le_of_ble_eq_true rfl⟩ (Nat.le_of_ble_eq_true rfl) ?_
    refine z_istore X [(4, .int o1.1), (0, .ref q_this), (1, .ref q_p1), (2, .int p2), (3, .int p3)] dX10_lowerAlong_14 (by decide) rfl ?_
    refine z_aload_n X 1 dX10_lowerAlong_16 rfl rfl ?_
    refine z_aload_n X 2 dX10_lowerAlong_17 rfl rfl ?_
    refine z_iload_n X 4 dX10_lowerAlong_18 rfl rfl ?_
    refine z_iload_n X 3 dX10_lowerAlong_19 rfl rfl ?_
    obtain ⟨o3, e4, h⟩ := bnd_p h
    refine z_wrV (rest := []) (q0 := 0) (ci := 10) (ws' := [(q_this, .inr (10, [.ref q_steps, .ref q_queue, .ref q_lows, .ref q_stops, .int f_stopCount, .int f_stepSum])), (q_lows, .inl (g 0, 64, .inl o3.2)), (q_p1, .inr (9, [.ref q_p1_houses, .ref q_p1_halls, .ref q_p1_posts, .ref q_p1_blocks, .ref q_p1_kinds, .int f_p1_hour, .int f_p1_day, .int f_p1_prankHouse, .int f_p1_bells, .int f_p1_echoes, .int f_p1_bellPranks])), (q_p1_blocks, .inl (g 0, 64, .inl a_p1_blocks))]) (wr := []) (as := [q_this, q_lows, q_p1, q_p1_blocks]) X k_X10_lowerFrom (c_X10_lowerFrom l D g q_this q_steps q_queue q_lows q_stops q_p1 q_p1_houses q_p1_halls q_p1_posts q_p1_blocks q_p1_kinds p3 p2 f_stopCount f_stepSum o1.2 f_p1_hour f_p1_day f_p1_prankHouse f_p1_bells f_p1_echoes f_p1_bellPranks a_p1_blocks o3 e4) ql_X10_X10_lowerFrom dX10_lowerAlong_20 [0, 1, 2, 3] [] ⟨rfl, rfl, rfl, rfl, rfl, rfl, rfl, rfl⟩ rfl rfl rfl rfl rfl ⟨Nat.le_of_ble_eq_true rfl, Nat.le_of_ble_eq_true rfl, rfl, rfl, Nat.le_of_ble_eq_true rfl, Nat.le_of_ble_eq_true rfl⟩ (Nat.le_of_ble_eq_true rfl) ?_
    refine z_istore X [(5, .int o3.1), (4, .int o1.1), (0, .ref q_this), (1, .ref q_p1), (2, .int p2), (3, .int p3)] dX10_lowerAlong_23 (by decide) rfl ?_
    refine z_iload X 1 dX10_lowerAlong_25 rfl ?_
    refine z_if_ne X 35 dX10_lowerAlong_27 (by decide) h (fun _ h => ?_) (fun _ h => ?_)
    · refine z_iload X 0 dX10_lowerAlong_30 rfl ?_
      refine z_if_eq X 39 dX10_lowerAlong_32 (by decide) h (fun _ h => ?_) (fun _ h => ?_)
      · refine z_iconst X (0 : Int32) dX10_lowerAlong_39 (by decide) ?_
        cases h
        exact z_zretW X hQ hA hr dX10_lowerAlong_40 rfl
      · refine z_iconst X (1 : Int32) dX10_lowerAlong_35 (by decide) ?_
        refine z_goto X 40 dX10_lowerAlong_36 (by decide) ?_
        cases h
        exact z_zretW X hQ hA hr dX10_lowerAlong_40 rfl
    · refine z_iconst X (1 : Int32) dX10_lowerAlong_35 (by decide) ?_
      refine z_goto X 40 dX10_lowerAlong_36 (by decide) ?_
      cases h
      exact z_zretW X hQ hA hr dX10_lowerAlong_40 rfl
