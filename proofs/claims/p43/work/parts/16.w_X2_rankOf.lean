def L_X2_rankOf_4 (p1 : Int32) (f_size : Int32) (a_rings : Nat → Int32) (a_pranks : Nat → Int32) : Nat → Int32 → Int32 → Option (Int32)
  | 0, _, _ => none
  | _n + 1, x2, x3 =>
    brn (f_size ≤ x3) (some (x2)) (bnd (F_X2_isAhead x3 p1 a_rings a_pranks) (fun o1 => brn (o1 = 0) (L_X2_rankOf_4 p1 f_size a_rings a_pranks _n x2 (x3 + 1)) (L_X2_rankOf_4 p1 f_size a_rings a_pranks _n (x2 + 1) (x3 + 1))))

def F_X2_rankOf (p1 : Int32) (f_size : Int32) (a_rings : Nat → Int32) (a_pranks : Nat → Int32) : Option (Int32) :=
  L_X2_rankOf_4 p1 f_size a_rings a_pranks 100 (0 : Int32) (0 : Int32)
theorem dX2_rankOf_0 : decode cX2_rankOf 0 = .ok (.iconst 0, 1) := by decide +kernel
theorem dX2_rankOf_1 : decode cX2_rankOf 1 = .ok (.istore_n 2, 1) := by decide +kernel
theorem dX2_rankOf_2 : decode cX2_rankOf 2 = .ok (.iconst 0, 1) := by decide +kernel
theorem dX2_rankOf_3 : decode cX2_rankOf 3 = .ok (.istore_n 3, 1) := by decide +kernel
theorem dX2_rankOf_4 : decode cX2_rankOf 4 = .ok (.iload_n 3, 1) := by decide +kernel
theorem dX2_rankOf_5 : decode cX2_rankOf 5 = .ok (.aload_n 0, 1) := by decide +kernel
theorem dX2_rankOf_6 : decode cX2_rankOf 6 = .ok (.getfield 27, 3) := by decide +kernel
theorem dX2_rankOf_9 : decode cX2_rankOf 9 = .ok (.if_icmp .ge 21, 3) := by decide +kernel
theorem dX2_rankOf_12 : decode cX2_rankOf 12 = .ok (.aload_n 0, 1) := by decide +kernel
theorem dX2_rankOf_13 : decode cX2_rankOf 13 = .ok (.iload_n 3, 1) := by decide +kernel
theorem dX2_rankOf_14 : decode cX2_rankOf 14 = .ok (.iload_n 1, 1) := by decide +kernel
theorem dX2_rankOf_15 : decode cX2_rankOf 15 = .ok (.invokevirtual 81, 3) := by decide +kernel
theorem dX2_rankOf_18 : decode cX2_rankOf 18 = .ok (.ifCond .eq 6, 3) := by decide +kernel
theorem dX2_rankOf_21 : decode cX2_rankOf 21 = .ok (.iinc 2 1, 3) := by decide +kernel
theorem dX2_rankOf_24 : decode cX2_rankOf 24 = .ok (.iinc 3 1, 3) := by decide +kernel
theorem dX2_rankOf_27 : decode cX2_rankOf 27 = .ok (.goto (-23), 3) := by decide +kernel
theorem dX2_rankOf_30 : decode cX2_rankOf 30 = .ok (.iload_n 2, 1) := by decide +kernel
theorem dX2_rankOf_31 : decode cX2_rankOf 31 = .ok (.ireturn, 1) := by decide +kernel
theorem k_X2_rankOf : cardV yX2_rankOf (Cond.code yX2_rankOf cX2_rankOf 4 (some .int)) 1 := ⟨⟨qi_X2_rankOf, qv_X2_rankOf⟩, qc_X2_rankOf, qn_X2, by decide +kernel, by decide +kernel, by decide +kernel⟩
set_option maxHeartbeats 4000000 in
set_option maxRecDepth 100000 in
theorem c_X2_rankOf (l : Launch) (D : va_G) (g : Nat → ClassId) (q_this q_cells q_froms q_tos q_rings q_pranks : Nat) (p1 : Int32) (f_size : Int32) (a_rings : Nat → Int32) (a_pranks : Nat → Int32) (o : Int32) (h : F_X2_rankOf p1 f_size a_rings a_pranks = some o) : MR l yX2_rankOf (Cond.code yX2_rankOf cX2_rankOf 4 (some .int)) { frames := 3, cells := 0, slots := 0, locals := 64 } D g [.ref q_this, .int p1] [(q_this, .inr (3, [.int f_size, .ref q_cells, .ref q_froms, .ref q_tos, .ref q_rings, .ref q_pranks])), (q_rings, .inl (g 0, 10, .inl a_rings)), (q_pranks, .inl (g 0, 10, .inl a_pranks))] (some (.int o)) := by
  refine z_rd_start (by decide) (Nat.le_of_ble_eq_true rfl) ?_
  intro p e s m args below meth c Q X hr hQ
  refine z_lv (lv' := [(0, .ref q_this), (1, .int p1)]) rfl ?_
  have H4 : ∀ (n : Nat) (x2 : Int32) (x3 : Int32), L_X2_rankOf_4 p1 f_size a_rings a_pranks  n x2 x3 = some o → Z p l e { frames := 3, cells := 0, slots := 0, locals := 64 } s m args below meth c Q 4 0 0 (IR D [(q_this, .inr (3, [.int f_size, .ref q_cells, .ref q_froms, .ref q_tos, .ref q_rings, .ref q_pranks])), (q_rings, .inl (g 0, 10, .inl a_rings)), (q_pranks, .inl (g 0, 10, .inl a_pranks))] s) 4 [(0, .ref q_this), (1, .int p1), (2, .int x2), (3, .int x3)] [] := by
    intro n
    induction n with
    | zero => intro x2 x3 h; cases h
    | succ n4 ih4 =>
      intro x2 x3 h
      refine z_iload_n X 3 dX2_rankOf_4 rfl rfl ?_
      refine z_aload_n X 0 dX2_rankOf_5 rfl rfl ?_
      refine z_get (q0 := 0) (k := 0) (ci := 3) X IR_P iw_X2 rfl qf_X2_X2_size (by decide) dX2_rankOf_6 rfl rfl ?_
      refine z_icmp_ge X 30 dX2_rankOf_9 (by decide) h (fun _ h => ?_) (fun _ h => ?_)
      · refine z_iload_n X 2 dX2_rankOf_30 rfl rfl ?_
        exact z_iretR X hQ hr dX2_rankOf_31 h
      · refine z_aload_n X 0 dX2_rankOf_12 rfl rfl ?_
        refine z_iload_n X 3 dX2_rankOf_13 rfl rfl ?_
        refine z_iload_n X 1 dX2_rankOf_14 rfl rfl ?_
        obtain ⟨o1, e2, h⟩ := bnd_p h
        refine z_rdV (rest := []) (q0 := 0) (ci := 3) X IR_P k_X2_isAhead (c_X2_isAhead l D g q_this q_cells q_froms q_tos q_rings q_pranks x3 p1 f_size a_rings a_pranks o1 e2) ql_X2_X2_isAhead dX2_rankOf_15 [0, 1, 2] rfl rfl rfl rfl rfl rfl ⟨Nat.le_of_ble_eq_true rfl, Nat.le_of_ble_eq_true rfl, rfl, rfl, Nat.le_of_ble_eq_true rfl, Nat.le_of_ble_eq_true rfl⟩ (Nat.le_of_ble_eq_true rfl) ?_
        refine z_if_eq X 24 dX2_rankOf_18 (by decide) h (fun _ h => ?_) (fun _ h => ?_)
        · refine z_iinc X 3 [(3, .int (x3 + 1)), (0, .ref q_this), (1, .int p1), (2, .int x2)] dX2_rankOf_24 rfl rfl (by decide) rfl ?_
          refine z_goto X 4 dX2_rankOf_27 (by decide) ?_
          refine z_sub (lv' := [(0, .ref q_this), (1, .int p1), (2, .int x2), (3, .int (x3 + 1))]) [1, 2, 3, 0] rfl ?_
          exact ih4 x2 (x3 + 1) h
        · refine z_iinc X 2 [(2, .int (x2 + 1)), (0, .ref q_this), (1, .int p1), (3, .int x3)] dX2_rankOf_21 rfl rfl (by decide) rfl ?_
          refine z_iinc X 3 [(3, .int (x3 + 1)), (2, .int (x2 + 1)), (0, .ref q_this), (1, .int p1)] dX2_rankOf_24 rfl rfl (by decide) rfl ?_
          refine z_goto X 4 dX2_rankOf_27 (by decide) ?_
          refine z_sub (lv' := [(0, .ref q_this), (1, .int p1), (2, .int (x2 + 1)), (3, .int (x3 + 1))]) [2, 3, 1, 0] rfl ?_
          exact ih4 (x2 + 1) (x3 + 1) h
  refine z_iconst X (0 : Int32) dX2_rankOf_0 (by decide) ?_
  refine z_istore_n X [(2, .int (0 : Int32)), (0, .ref q_this), (1, .int p1)] dX2_rankOf_1 rfl (by decide) rfl ?_
  refine z_iconst X (0 : Int32) dX2_rankOf_2 (by decide) ?_
  refine z_istore_n X [(3, .int (0 : Int32)), (2, .int (0 : Int32)), (0, .ref q_this), (1, .int p1)] dX2_rankOf_3 rfl (by decide) rfl ?_
  refine z_sub (lv' := [(0, .ref q_this), (1, .int p1), (2, .int (0 : Int32)), (3, .int (0 : Int32))]) [2, 3, 1, 0] rfl ?_
  exact H4 100 (0 : Int32) (0 : Int32) h

def L_X2_atRank_2 (p1 : Int32) (f_size : Int32) (a_rings : Nat → Int32) (a_pranks : Nat → Int32) : Nat → Int32 → Option (Int32)
  | 0, _ => none
  | _n + 1, x2 =>
    brn (f_size ≤ x2) (some (((-1) : Int32))) (bnd (F_X2_rankOf x2 f_size a_rings a_pranks) (fun o1 => brn (o1 = p1) (some (x2)) (L_X2_atRank_2 p1 f_size a_rings a_pranks _n (x2 + 1))))

def F_X2_atRank (p1 : Int32) (f_size : Int32) (a_rings : Nat → Int32) (a_pranks : Nat → Int32) : Option (Int32) :=
  L_X2_atRank_2 p1 f_size a_rings a_pranks 100 (0 : Int32)
theorem dX2_atRank_0 : decode cX2_atRank 0 = .ok (.iconst 0, 1) := by decide +kernel
theorem dX2_atRank_1 : decode cX2_atRank 1 = .ok (.istore_n 2, 1) := by decide +kernel
theorem dX2_atRank_2 : decode cX2_atRank 2 = .ok (.iload_n 2, 1) := by decide +kernel
theorem dX2_atRank_3 : decode cX2_atRank 3 = .ok (.aload_n 0, 1) := by decide +kernel
theorem dX2_atRank_4 : decode cX2_atRank 4 = .ok (.getfield 27, 3) := by decide +kernel
theorem dX2_atRank_7 : decode cX2_atRank 7 = .ok (.if_icmp .ge 20, 3) := by decide +kernel
theorem dX2_atRank_10 : decode cX2_atRank 10 = .ok (.aload_n 0, 1) := by decide +kernel
theorem dX2_atRank_11 : decode cX2_atRank 11 = .ok (.iload_n 2, 1) := by decide +kernel
theorem dX2_atRank_12 : decode cX2_atRank 12 = .ok (.invokevirtual 78, 3) := by decide +kernel
theorem dX2_atRank_15 : decode cX2_atRank 15 = .ok (.iload_n 1, 1) := by decide +kernel
theorem dX2_atRank_16 : decode cX2_atRank 16 = .ok (.if_icmp .ne 5, 3) := by decide +kernel
theorem dX2_atRank_19 : decode cX2_atRank 19 = .ok (.iload_n 2, 1) := by decide +kernel
theorem dX2_atRank_20 : decode cX2_atRank 20 = .ok (.ireturn, 1) := by decide +kernel
theorem dX2_atRank_21 : decode cX2_atRank 21 = .ok (.iinc 2 1, 3) := by decide +kernel
theorem dX2_atRank_24 : decode cX2_atRank 24 = .ok (.goto (-22), 3) := by decide +kernel
theorem dX2_atRank_27 : decode cX2_atRank 27 = .ok (.iconst (-1), 1) := by decide +kernel
theorem dX2_atRank_28 : decode cX2_atRank 28 = .ok (.ireturn, 1) := by decide +kernel
theorem k_X2_atRank : cardV yX2_atRank (Cond.code yX2_atRank cX2_atRank 3 (some .int)) 1 := ⟨⟨qi_X2_atRank, qv_X2_atRank⟩, qc_X2_atRank, qn_X2, by decide +kernel, by decide +kernel, by decide +kernel⟩
set_option maxHeartbeats 4000000 in
set_option maxRecDepth 100000 in
theorem c_X2_atRank (l : Launch) (D : va_G) (g : Nat → ClassId) (q_this q_cells q_froms q_tos q_rings q_pranks : Nat) (p1 : Int32) (f_size : Int32) (a_rings : Nat → Int32) (a_pranks : Nat → Int32) (o : Int32) (h : F_X2_atRank p1 f_size a_rings a_pranks = some o) : MR l yX2_atRank (Cond.code yX2_atRank cX2_atRank 3 (some .int)) { frames := 4, cells := 0, slots := 0, locals := 87 } D g [.ref q_this, .int p1] [(q_this, .inr (3, [.int f_size, .ref q_cells, .ref q_froms, .ref q_tos, .ref q_rings, .ref q_pranks])), (q_rings, .inl (g 0, 10, .inl a_rings)), (q_pranks, .inl (g 0, 10, .inl a_pranks))] (some (.int o)) := by
  refine z_rd_start (by decide) (Nat.le_of_ble_eq_true rfl) ?_
  intro p e s m args below meth c Q X hr hQ
  refine z_lv (lv' := [(0, .ref q_this), (1, .int p1)]) rfl ?_
  have H2 : ∀ (n : Nat) (x2 : Int32), L_X2_atRank_2 p1 f_size a_rings a_pranks  n x2 = some o → Z p l e { frames := 4, cells := 0, slots := 0, locals := 87 } s m args below meth c Q 3 0 0 (IR D [(q_this, .inr (3, [.int f_size, .ref q_cells, .ref q_froms, .ref q_tos, .ref q_rings, .ref q_pranks])), (q_rings, .inl (g 0, 10, .inl a_rings)), (q_pranks, .inl (g 0, 10, .inl a_pranks))] s) 2 [(0, .ref q_this), (1, .int p1), (2, .int x2)] [] := by
    intro n
    induction n with
    | zero => intro x2 h; cases h
    | succ n2 ih2 =>
      intro x2 h
      refine z_iload_n X 2 dX2_atRank_2 rfl rfl ?_
      refine z_aload_n X 0 dX2_atRank_3 rfl rfl ?_
      refine z_get (q0 := 0) (k := 0) (ci := 3) X IR_P iw_X2 rfl qf_X2_X2_size (by decide) dX2_atRank_4 rfl rfl ?_
      refine z_icmp_ge X 27 dX2_atRank_7 (by decide) h (fun _ h => ?_) (fun _ h => ?_)
      · refine z_iconst X ((-1) : Int32) dX2_atRank_27 (by decide) ?_
        exact z_iretR X hQ hr dX2_atRank_28 h
      · refine z_aload_n X 0 dX2_atRank_10 rfl rfl ?_
        refine z_iload_n X 2 dX2_atRank_11 rfl rfl ?_
        obtain ⟨o1, e2, h⟩ := bnd_p h
        refine z_rdV (rest := []) (q0 := 0) (ci := 3) X IR_P k_X2_rankOf (c_X2_rankOf l D g q_this q_cells q_froms q_tos q_rings q_pranks x2 f_size a_rings a_pranks o1 e2) ql_X2_X2_rankOf dX2_atRank_12 [0, 1, 2] rfl rfl rfl rfl rfl rfl ⟨Nat.le_of_ble_eq_true rfl, Nat.le_of_ble_eq_true rfl, rfl, rfl, Nat.le_of_ble_eq_true rfl, Nat.le_of_ble_eq_true rfl⟩ (Nat.le_of_ble_eq_true rfl) ?_
        refine z_iload_n X 1 dX2_atRank_15 rfl rfl ?_
        refine z_icmp_ne X 21 dX2_atRank_16 (by decide) h (fun _ h => ?_) (fun _ h => ?_)
        · refine z_iload_n X 2 dX2_atRank_19 rfl rfl ?_
          exact z_iretR X hQ hr dX2_atRank_20 h
        · refine z_iinc X 2 [(2, .int (x2 + 1)), (0, .ref q_this), (1, .int p1)] dX2_atRank_21 rfl rfl (by decide) rfl ?_
          refine z_goto X 2 dX2_atRank_24 (by decide) ?_
          refine z_sub (lv' := [(0, .ref q_this), (1, .int p1), (2, .int (x2 + 1))]) [1, 2, 0] rfl ?_
          exact ih2 (x2 + 1) h
  refine z_iconst X (0 : Int32) dX2_atRank_0 (by decide) ?_
  refine z_istore_n X [(2, .int (0 : Int32)), (0, .ref q_this), (1, .int p1)] dX2_atRank_1 rfl (by decide) rfl ?_
  refine z_sub (lv' := [(0, .ref q_this), (1, .int p1), (2, .int (0 : Int32))]) [1, 2, 0] rfl ?_
  exact H2 100 (0 : Int32) h

def F_X8_digit (p0 : Int32) : Option (Int32) :=
  grd (vp_nar .char ((((48 : Int32) + p0).toUInt32 % 65536).toInt32) = ((((48 : Int32) + p0).toUInt32 % 65536).toInt32)) (some ((((48 : Int32) + p0).toUInt32 % 65536).toInt32))
theorem dX8_digit_0 : decode cX8_digit 0 = .ok (.bipush 48, 2) := by decide +kernel
theorem dX8_digit_2 : decode cX8_digit 2 = .ok (.iload_n 0, 1) := by decide +kernel
theorem dX8_digit_3 : decode cX8_digit 3 = .ok (.iadd, 1) := by decide +kernel
theorem dX8_digit_4 : decode cX8_digit 4 = .ok (.i2c, 1) := by decide +kernel
theorem dX8_digit_5 : decode cX8_digit 5 = .ok (.ireturn, 1) := by decide +kernel
theorem k_X8_digit : cardS yX8_digit (Cond.code yX8_digit cX8_digit 1 (some .char)) 1 := ⟨qs_X8_digit, qc_X8_digit, qn_X8, by decide +kernel, by decide +kernel, by decide +kernel⟩
set_option maxHeartbeats 4000000 in
set_option maxRecDepth 100000 in
theorem c_X8_digit (l : Launch) (D : va_G) (g : Nat → ClassId) (p0 : Int32) (o : Int32) (h : F_X8_digit p0 = some o) : MR l yX8_digit (Cond.code yX8_digit cX8_digit 1 (some .char)) { frames := 0, cells := 0, slots := 0, locals := 0 } D g [.int p0] [] (some (.int o)) := by
  refine z_rd_start (by decide) (Nat.le_of_ble_eq_true rfl) ?_
  intro p e s m args below meth c Q X hr hQ
  refine z_lv (lv' := [(0, .int p0)]) rfl ?_
  refine z_bipush X (48 : Int32) dX8_digit_0 (by decide) ?_
  refine z_iload_n X 0 dX8_digit_2 rfl rfl ?_
  refine z_iadd X dX8_digit_3 ?_
  refine z_i2c X dX8_digit_4 ?_
  obtain ⟨e1, h⟩ := grd_p h
  exact z_zretR X hQ hr dX8_digit_5 (nar_char e1) h

def F_X8_signOf (p1 : Int32) (f_p0_houses_size : Int32) (a_p0_houses_cells : Nat → Int32) (f_p0_halls_size : Int32) (a_p0_halls_rows : Nat → Int32) (a_p0_halls_firsts : Nat → Int32) (a_p0_halls_lasts : Nat → Int32) (f_p0_posts_size : Int32) (a_p0_posts_cells : Nat → Int32) (a_p0_blocks : Nat → Int32) : Option (Int32) :=
  bnd (F_X2_on p1 f_p0_houses_size a_p0_houses_cells) (fun o1 => brn (o1 = ((-1) : Int32)) (bnd (F_X9_isBlocked p1 a_p0_blocks) (fun o3 => brn (o3 = 0) (bnd (F_X5_on p1 f_p0_posts_size a_p0_posts_cells) (fun o5 => brn (o5 = ((-1) : Int32)) (bnd (F_X1_around p1 f_p0_halls_size a_p0_halls_rows a_p0_halls_firsts a_p0_halls_lasts) (fun o7 => brn (o7 = ((-1) : Int32)) (grd (vp_nar .char (46 : Int32) = (46 : Int32)) (some ((46 : Int32)))) (grd (vp_nar .char (95 : Int32) = (95 : Int32)) (some ((95 : Int32)))))) (grd (vp_nar .char (111 : Int32) = (111 : Int32)) (some ((111 : Int32)))))) (grd (vp_nar .char (35 : Int32) = (35 : Int32)) (some ((35 : Int32)))))) (bnd (F_X8_digit o1) (fun o13 => grd (vp_nar .char o13 = o13) (some (o13)))))
theorem dX8_signOf_0 : decode cX8_signOf 0 = .ok (.aload_n 0, 1) := by decide +kernel
theorem dX8_signOf_1 : decode cX8_signOf 1 = .ok (.getfield 33, 3) := by decide +kernel
theorem dX8_signOf_4 : decode cX8_signOf 4 = .ok (.iload_n 1, 1) := by decide +kernel
theorem dX8_signOf_5 : decode cX8_signOf 5 = .ok (.invokevirtual 39, 3) := by decide +kernel
theorem dX8_signOf_8 : decode cX8_signOf 8 = .ok (.istore_n 2, 1) := by decide +kernel
theorem dX8_signOf_9 : decode cX8_signOf 9 = .ok (.iload_n 2, 1) := by decide +kernel
theorem dX8_signOf_10 : decode cX8_signOf 10 = .ok (.iconst (-1), 1) := by decide +kernel
theorem dX8_signOf_11 : decode cX8_signOf 11 = .ok (.if_icmp .eq 8, 3) := by decide +kernel
theorem dX8_signOf_14 : decode cX8_signOf 14 = .ok (.iload_n 2, 1) := by decide +kernel
theorem dX8_signOf_15 : decode cX8_signOf 15 = .ok (.invokestatic 45, 3) := by decide +kernel
theorem dX8_signOf_18 : decode cX8_signOf 18 = .ok (.ireturn, 1) := by decide +kernel
theorem dX8_signOf_19 : decode cX8_signOf 19 = .ok (.aload_n 0, 1) := by decide +kernel
theorem dX8_signOf_20 : decode cX8_signOf 20 = .ok (.iload_n 1, 1) := by decide +kernel
theorem dX8_signOf_21 : decode cX8_signOf 21 = .ok (.invokevirtual 49, 3) := by decide +kernel
theorem dX8_signOf_24 : decode cX8_signOf 24 = .ok (.ifCond .eq 6, 3) := by decide +kernel
theorem dX8_signOf_27 : decode cX8_signOf 27 = .ok (.bipush 35, 2) := by decide +kernel
theorem dX8_signOf_29 : decode cX8_signOf 29 = .ok (.ireturn, 1) := by decide +kernel
theorem dX8_signOf_30 : decode cX8_signOf 30 = .ok (.aload_n 0, 1) := by decide +kernel
theorem dX8_signOf_31 : decode cX8_signOf 31 = .ok (.getfield 53, 3) := by decide +kernel
theorem dX8_signOf_34 : decode cX8_signOf 34 = .ok (.iload_n 1, 1) := by decide +kernel
theorem dX8_signOf_35 : decode cX8_signOf 35 = .ok (.invokevirtual 57, 3) := by decide +kernel
theorem dX8_signOf_38 : decode cX8_signOf 38 = .ok (.iconst (-1), 1) := by decide +kernel
theorem dX8_signOf_39 : decode cX8_signOf 39 = .ok (.if_icmp .eq 6, 3) := by decide +kernel
theorem dX8_signOf_42 : decode cX8_signOf 42 = .ok (.bipush 111, 2) := by decide +kernel
theorem dX8_signOf_44 : decode cX8_signOf 44 = .ok (.ireturn, 1) := by decide +kernel
theorem dX8_signOf_45 : decode cX8_signOf 45 = .ok (.aload_n 0, 1) := by decide +kernel
theorem dX8_signOf_46 : decode cX8_signOf 46 = .ok (.getfield 60, 3) := by decide +kernel
theorem dX8_signOf_49 : decode cX8_signOf 49 = .ok (.iload_n 1, 1) := by decide +kernel
theorem dX8_signOf_50 : decode cX8_signOf 50 = .ok (.invokevirtual 64, 3) := by decide +kernel
theorem dX8_signOf_53 : decode cX8_signOf 53 = .ok (.iconst (-1), 1) := by decide +kernel
theorem dX8_signOf_54 : decode cX8_signOf 54 = .ok (.if_icmp .eq 8, 3) := by decide +kernel
theorem dX8_signOf_57 : decode cX8_signOf 57 = .ok (.bipush 95, 2) := by decide +kernel
theorem dX8_signOf_59 : decode cX8_signOf 59 = .ok (.goto 5, 3) := by decide +kernel
theorem dX8_signOf_62 : decode cX8_signOf 62 = .ok (.bipush 46, 2) := by decide +kernel
theorem dX8_signOf_64 : decode cX8_signOf 64 = .ok (.ireturn, 1) := by decide +kernel
theorem k_X8_signOf : cardS yX8_signOf (Cond.code yX8_signOf cX8_signOf 3 (some .char)) 2 := ⟨qs_X8_signOf, qc_X8_signOf, qn_X8, by decide +kernel, by decide +kernel, by decide +kernel⟩
set_option maxHeartbeats 4000000 in
set_option maxRecDepth 100000 in
theorem c_X8_signOf (l : Launch) (D : va_G) (g : Nat → ClassId) (q_p0 q_p0_houses q_p0_halls q_p0_posts q_p0_blocks q_p0_kinds q_p0_houses_cells q_p0_houses_froms q_p0_houses_tos q_p0_houses_rings q_p0_houses_pranks q_p0_halls_rows q_p0_halls_firsts q_p0_halls_lasts q_p0_posts_cells q_p0_posts_tolds : Nat) (p1 : Int32) (f_p0_hour : Int32) (f_p0_day : Int32) (f_p0_prankHouse : Int32) (f_p0_bells : Int32) (f_p0_echoes : Int32) (f_p0_bellPranks : Int32) (f_p0_houses_size : Int32) (a_p0_houses_cells : Nat → Int32) (f_p0_halls_size : Int32) (a_p0_halls_rows : Nat → Int32) (a_p0_halls_firsts : Nat → Int32) (a_p0_halls_lasts : Nat → Int32) (f_p0_posts_size : Int32) (a_p0_posts_cells : Nat → Int32) (a_p0_blocks : Nat → Int32) (o : Int32) (h : F_X8_signOf p1 f_p0_houses_size a_p0_houses_cells f_p0_halls_size a_p0_halls_rows a_p0_halls_firsts a_p0_halls_lasts f_p0_posts_size a_p0_posts_cells a_p0_blocks = some o) : MR l yX8_signOf (Cond.code yX8_signOf cX8_signOf 3 (some .char)) { frames := 2, cells := 0, slots := 0, locals := 45 } D g [.ref q_p0, .int p1] [(q_p0, .inr (9, [.ref q_p0_houses, .ref q_p0_halls, .ref q_p0_posts, .ref q_p0_blocks, .ref q_p0_kinds, .int f_p0_hour, .int f_p0_day, .int f_p0_prankHouse, .int f_p0_bells, .int f_p0_echoes, .int f_p0_bellPranks])), (q_p0_houses, .inr (3, [.int f_p0_houses_size, .ref q_p0_houses_cells, .ref q_p0_houses_froms, .ref q_p0_houses_tos, .ref q_p0_houses_rings, .ref q_p0_houses_pranks])), (q_p0_houses_cells, .inl (g 0, 10, .inl a_p0_houses_cells)), (q_p0_halls, .inr (2, [.int f_p0_halls_size, .ref q_p0_halls_rows, .ref q_p0_halls_firsts, .ref q_p0_halls_lasts])), (q_p0_halls_rows, .inl (g 0, 4, .inl a_p0_halls_rows)), (q_p0_halls_firsts, .inl (g 0, 4, .inl a_p0_halls_firsts)), (q_p0_halls_lasts, .inl (g 0, 4, .inl a_p0_halls_lasts)), (q_p0_posts, .inr (6, [.int f_p0_posts_size, .ref q_p0_posts_cells, .ref q_p0_posts_tolds])), (q_p0_posts_cells, .inl (g 0, 4, .inl a_p0_posts_cells)), (q_p0_blocks, .inl (g 0, 64, .inl a_p0_blocks))] (some (.int o)) := by
  refine z_rd_start (by decide) (Nat.le_of_ble_eq_true rfl) ?_
  intro p e s m args below meth c Q X hr hQ
  refine z_lv (lv' := [(0, .ref q_p0), (1, .int p1)]) rfl ?_
  refine z_aload_n X 0 dX8_signOf_0 rfl rfl ?_
  refine z_getN (q0 := 0) (k := 0) (ci := 9) X IR_P iw_X9 rfl qfN_X8_X9_houses (by decide) dX8_signOf_1 rfl rfl ?_
  refine z_iload_n X 1 dX8_signOf_4 rfl rfl ?_
  obtain ⟨o1, e2, h⟩ := bnd_p h
  refine z_rdV (rest := []) (q0 := 1) (ci := 3) X IR_P k_X2_on (c_X2_on l D g q_p0_houses q_p0_houses_cells q_p0_houses_froms q_p0_houses_tos q_p0_houses_rings q_p0_houses_pranks p1 f_p0_houses_size a_p0_houses_cells o1 e2) ql_X8_X2_on dX8_signOf_5 [1, 2] rfl rfl rfl rfl rfl rfl ⟨Nat.le_of_ble_eq_true rfl, Nat.le_of_ble_eq_true rfl, rfl, rfl, Nat.le_of_ble_eq_true rfl, Nat.le_of_ble_eq_true rfl⟩ (Nat.le_of_ble_eq_true rfl) ?_
  refine z_istore_n X [(2, .int o1), (0, .ref q_p0), (1, .int p1)] dX8_signOf_8 rfl (by decide) rfl ?_
  refine z_iload_n X 0 dX8_signOf_9 rfl rfl ?_
  refine z_iconst X ((-1) : Int32) dX8_signOf_10 (by decide) ?_
  refine z_icmp_eq X 19 dX8_signOf_11 (by decide) h (fun _ h => ?_) (fun _ h => ?_)
  · refine z_aload_n X 1 dX8_signOf_19 rfl rfl ?_
    refine z_iload_n X 2 dX8_signOf_20 rfl rfl ?_
    obtain ⟨o3, e4, h⟩ := bnd_p h
    refine z_rdV (rest := []) (q0 := 0) (ci := 9) X IR_P k_X9_isBlocked (c_X9_isBlocked l D g q_p0 q_p0_houses q_p0_halls q_p0_posts q_p0_blocks q_p0_kinds p1 f_p0_hour f_p0_day f_p0_prankHouse f_p0_bells f_p0_echoes f_p0_bellPranks a_p0_blocks o3 e4) ql_X8_X9_isBlocked dX8_signOf_21 [0, 9] rfl rfl rfl rfl rfl rfl ⟨Nat.le_of_ble_eq_true rfl, Nat.le_of_ble_eq_true rfl, rfl, rfl, Nat.le_of_ble_eq_true rfl, Nat.le_of_ble_eq_true rfl⟩ (Nat.le_of_ble_eq_true rfl) ?_
    refine z_if_eq X 30 dX8_signOf_24 (by decide) h (fun _ h => ?_) (fun _ h => ?_)
    · refine z_aload_n X 1 dX8_signOf_30 rfl rfl ?_
      refine z_getN (q0 := 0) (k := 2) (ci := 9) X IR_P iw_X9 rfl qfN_X8_X9_posts (by decide) dX8_signOf_31 rfl rfl ?_
      refine z_iload_n X 2 dX8_signOf_34 rfl rfl ?_
      obtain ⟨o5, e6, h⟩ := bnd_p h
      refine z_rdV (rest := []) (q0 := 7) (ci := 6) X IR_P k_X5_on (c_X5_on l D g q_p0_posts q_p0_posts_cells q_p0_posts_tolds p1 f_p0_posts_size a_p0_posts_cells o5 e6) ql_X8_X5_on dX8_signOf_35 [7, 8] rfl rfl rfl rfl rfl rfl ⟨Nat.le_of_ble_eq_true rfl, Nat.le_of_ble_eq_true rfl, rfl, rfl, Nat.le_of_ble_eq_true rfl, Nat.le_of_ble_eq_true rfl⟩ (Nat.le_of_ble_eq_true rfl) ?_
      refine z_iconst X ((-1) : Int32) dX8_signOf_38 (by decide) ?_
      refine z_icmp_eq X 45 dX8_signOf_39 (by decide) h (fun _ h => ?_) (fun _ h => ?_)
      · refine z_aload_n X 1 dX8_signOf_45 rfl rfl ?_
        refine z_getN (q0 := 0) (k := 1) (ci := 9) X IR_P iw_X9 rfl qfN_X8_X9_halls (by decide) dX8_signOf_46 rfl rfl ?_
        refine z_iload_n X 2 dX8_signOf_49 rfl rfl ?_
        obtain ⟨o7, e8, h⟩ := bnd_p h
        refine z_rdV (rest := []) (q0 := 3) (ci := 2) X IR_P k_X1_around (c_X1_around l D g q_p0_halls q_p0_halls_rows q_p0_halls_firsts q_p0_halls_lasts p1 f_p0_halls_size a_p0_halls_rows a_p0_halls_firsts a_p0_halls_lasts o7 e8) ql_X8_X1_around dX8_signOf_50 [3, 4, 5, 6] rfl rfl rfl rfl rfl rfl ⟨Nat.le_of_ble_eq_true rfl, Nat.le_of_ble_eq_true rfl, rfl, rfl, Nat.le_of_ble_eq_true rfl, Nat.le_of_ble_eq_true rfl⟩ (Nat.le_of_ble_eq_true rfl) ?_
        refine z_iconst X ((-1) : Int32) dX8_signOf_53 (by decide) ?_
        refine z_icmp_eq X 62 dX8_signOf_54 (by decide) h (fun _ h => ?_) (fun _ h => ?_)
        · refine z_bipush X (46 : Int32) dX8_signOf_62 (by decide) ?_
          obtain ⟨e9, h⟩ := grd_p h
          exact z_zretR X hQ hr dX8_signOf_64 (nar_char e9) h
        · refine z_bipush X (95 : Int32) dX8_signOf_57 (by decide) ?_
          refine z_goto X 64 dX8_signOf_59 (by decide) ?_
          obtain ⟨e10, h⟩ := grd_p h
          exact z_zretR X hQ hr dX8_signOf_64 (nar_char e10) h
      · refine z_bipush X (111 : Int32) dX8_signOf_42 (by decide) ?_
        obtain ⟨e11, h⟩ := grd_p h
        exact z_zretR X hQ hr dX8_signOf_44 (nar_char e11) h
    · refine z_bipush X (35 : Int32) dX8_signOf_27 (by decide) ?_
      obtain ⟨e12, h⟩ := grd_p h
      exact z_zretR X hQ hr dX8_signOf_29 (nar_char e12) h
  · refine z_iload_n X 0 dX8_signOf_14 rfl rfl ?_
    obtain ⟨o13, e14, h⟩ := bnd_p h
    refine z_rdS (rest := []) X IR_P k_X8_digit (c_X8_digit l D g o1 o13 e14) ql_X8_X8_digit dX8_signOf_15 [] rfl rfl rfl ⟨Nat.le_of_ble_eq_true rfl, Nat.le_of_ble_eq_true rfl, rfl, rfl, Nat.le_of_ble_eq_true rfl, Nat.le_of_ble_eq_true rfl⟩ (Nat.le_of_ble_eq_true rfl) ?_
    obtain ⟨e15, h⟩ := grd_p h
    exact z_zretR X hQ hr dX8_signOf_18 (nar_char e15) h

def F_X8_putSign (p1 : Int32) (f_size : Int32) (a_signs : Nat → Int32) : Option (Int32 × (Nat → Int32)) :=
  brn ((20 : Int32) ≤ f_size) (some (f_size, a_signs)) (grd (inb f_size 20) (some ((f_size + (1 : Int32)), (upd a_signs f_size.toNatClampNeg (vp_nar .char p1)))))
theorem dX8_putSign_0 : decode cX8_putSign 0 = .ok (.aload_n 0, 1) := by decide +kernel
theorem dX8_putSign_1 : decode cX8_putSign 1 = .ok (.getfield 15, 3) := by decide +kernel
theorem dX8_putSign_4 : decode cX8_putSign 4 = .ok (.aload_n 0, 1) := by decide +kernel
theorem dX8_putSign_5 : decode cX8_putSign 5 = .ok (.getfield 9, 3) := by decide +kernel
theorem dX8_putSign_8 : decode cX8_putSign 8 = .ok (.arraylength, 1) := by decide +kernel
theorem dX8_putSign_9 : decode cX8_putSign 9 = .ok (.if_icmp .ge 23, 3) := by decide +kernel
theorem dX8_putSign_12 : decode cX8_putSign 12 = .ok (.aload_n 0, 1) := by decide +kernel
theorem dX8_putSign_13 : decode cX8_putSign 13 = .ok (.getfield 9, 3) := by decide +kernel
theorem dX8_putSign_16 : decode cX8_putSign 16 = .ok (.aload_n 0, 1) := by decide +kernel
theorem dX8_putSign_17 : decode cX8_putSign 17 = .ok (.getfield 15, 3) := by decide +kernel
theorem dX8_putSign_20 : decode cX8_putSign 20 = .ok (.iload_n 1, 1) := by decide +kernel
theorem dX8_putSign_21 : decode cX8_putSign 21 = .ok (.castore, 1) := by decide +kernel
theorem dX8_putSign_22 : decode cX8_putSign 22 = .ok (.aload_n 0, 1) := by decide +kernel
theorem dX8_putSign_23 : decode cX8_putSign 23 = .ok (.dup, 1) := by decide +kernel
theorem dX8_putSign_24 : decode cX8_putSign 24 = .ok (.getfield 15, 3) := by decide +kernel
theorem dX8_putSign_27 : decode cX8_putSign 27 = .ok (.iconst 1, 1) := by decide +kernel
theorem dX8_putSign_28 : decode cX8_putSign 28 = .ok (.iadd, 1) := by decide +kernel
theorem dX8_putSign_29 : decode cX8_putSign 29 = .ok (.putfield 15, 3) := by decide +kernel
theorem dX8_putSign_32 : decode cX8_putSign 32 = .ok (.return_, 1) := by decide +kernel
theorem k_X8_putSign : cardV yX8_putSign (Cond.code yX8_putSign cX8_putSign 2 none) 1 := ⟨⟨qi_X8_putSign, qv_X8_putSign⟩, qc_X8_putSign, qn_X8, by decide +kernel, by decide +kernel, by decide +kernel⟩
set_option maxHeartbeats 4000000 in
set_option maxRecDepth 100000 in
theorem c_X8_putSign (l : Launch) (D : va_G) (g : Nat → ClassId) (q_this q_signs : Nat) (p1 : Int32) (f_size : Int32) (a_signs : Nat → Int32) (o : Int32 × (Nat → Int32)) (h : F_X8_putSign p1 f_size a_signs = some o) : MW l yX8_putSign (Cond.code yX8_putSign cX8_putSign 2 none) { frames := 0, cells := 0, slots := 0, locals := 0 } D g [.ref q_this, .int p1] [(q_this, .inr (8, [.ref q_signs, .int f_size])), (q_signs, .inl (g 1, 20, .inl a_signs))] none [(q_this, .inr (8, [.ref q_signs, .int o.1])), (q_signs, .inl (g 1, 20, .inl o.2))] := by
  refine z_wr_start (by decide) (Nat.le_of_ble_eq_true rfl) ?_
  intro p e s m args below meth c Q A X hr hQ hA
  refine z_lv (lv' := [(0, .ref q_this), (1, .int p1)]) rfl ?_
  refine z_aload_n X 0 dX8_putSign_0 rfl rfl ?_
  refine z_get (q0 := 0) (k := 1) (ci := 8) X IW_P iw_X8 rfl qf_X8_X8_size (by decide) dX8_putSign_1 rfl rfl ?_
  refine z_aload_n X 0 dX8_putSign_4 rfl rfl ?_
  refine z_get (q0 := 0) (k := 0) (ci := 8) X IW_P iw_X8 rfl qf_X8_X8_signs (by decide) dX8_putSign_5 rfl rfl ?_
  refine z_alen (q0 := 1) (v := (20 : Int32)) X IW_P 1 dX8_putSign_8 rfl rfl rfl ?_
  refine z_icmp_ge X 32 dX8_putSign_9 (by decide) h (fun _ h => ?_) (fun _ h => ?_)
  · cases h
    exact z_vretW X hQ hA hr dX8_putSign_32
  · refine z_aload_n X 0 dX8_putSign_12 rfl rfl ?_
    refine z_get (q0 := 0) (k := 0) (ci := 8) X IW_P iw_X8 rfl qf_X8_X8_signs (by decide) dX8_putSign_13 rfl rfl ?_
    refine z_aload_n X 0 dX8_putSign_16 rfl rfl ?_
    refine z_get (q0 := 0) (k := 1) (ci := 8) X IW_P iw_X8 rfl qf_X8_X8_size (by decide) dX8_putSign_17 rfl rfl ?_
    refine z_iload_n X 1 dX8_putSign_20 rfl rfl ?_
    refine z_cast (q0 := 1) (ws' := [(q_this, .inr (8, [.ref q_signs, .int f_size])), (q_signs, .inl (g 1, 20, .inl (upd a_signs f_size.toNatClampNeg (vp_nar .char p1))))]) X dX8_putSign_21 rfl h rfl (fun h => ?_)
    refine z_aload_n X 0 dX8_putSign_22 rfl rfl ?_
    refine z_dup X dX8_putSign_23 rfl ?_
    refine z_get (q0 := 0) (k := 1) (ci := 8) X IW_P iw_X8 rfl qf_X8_X8_size (by decide) dX8_putSign_24 rfl rfl ?_
    refine z_iconst X (1 : Int32) dX8_putSign_27 (by decide) ?_
    refine z_iadd X dX8_putSign_28 ?_
    refine z_put (q0 := 0) (k := 1) (ci := 8) (ws' := [(q_this, .inr (8, [.ref q_signs, .int (f_size + (1 : Int32))])), (q_signs, .inl (g 1, 20, .inl (upd a_signs f_size.toNatClampNeg (vp_nar .char p1))))]) X iw_X8 tyX8_ok nmX8 rfl qf_X8_X8_size (by decide) rfl rfl dX8_putSign_29 rfl rfl rfl (Nat.le_of_ble_eq_true rfl) rfl ?_
    cases h
    exact z_vretW X hQ hA hr dX8_putSign_32

def L_X8_writeRow_7 (p2 : Int32) (f_p1_houses_size : Int32) (a_p1_houses_cells : Nat → Int32) (f_p1_halls_size : Int32) (a_p1_halls_rows : Nat → Int32) (a_p1_halls_firsts : Nat → Int32) (a_p1_halls_lasts : Nat → Int32) (f_p1_posts_size : Int32) (a_p1_posts_cells : Nat → Int32) (a_p1_blocks : Nat → Int32) : Nat → Int32 → (Int32) → (Nat → Int32) → Option (Int32 × Int32 × (Nat → Int32))
  | 0, _, _, _ => none
  | _n + 1, x3, f_size, a_signs =>
    brn ((8 : Int32) ≤ x3) (some (f_size, f_size, a_signs)) (bnd (F_X0_cellAt p2 x3) (fun o1 => bnd (F_X8_signOf o1 f_p1_houses_size a_p1_houses_cells f_p1_halls_size a_p1_halls_rows a_p1_halls_firsts a_p1_halls_lasts f_p1_posts_size a_p1_posts_cells a_p1_blocks) (fun o3 => bnd (F_X8_putSign o3 f_size a_signs) (fun o5 => L_X8_writeRow_7 p2 f_p1_houses_size a_p1_houses_cells f_p1_halls_size a_p1_halls_rows a_p1_halls_firsts a_p1_halls_lasts f_p1_posts_size a_p1_posts_cells a_p1_blocks _n (x3 + 1) o5.1 o5.2))))

def F_X8_writeRow (p2 : Int32) (f_p1_houses_size : Int32) (a_p1_houses_cells : Nat → Int32) (f_p1_halls_size : Int32) (a_p1_halls_rows : Nat → Int32) (a_p1_halls_firsts : Nat → Int32) (a_p1_halls_lasts : Nat → Int32) (f_p1_posts_size : Int32) (a_p1_posts_cells : Nat → Int32) (a_p1_blocks : Nat → Int32) (f_size : Int32) (a_signs : Nat → Int32) : Option (Int32 × Int32 × (Nat → Int32)) :=
  L_X8_writeRow_7 p2 f_p1_houses_size a_p1_houses_cells f_p1_halls_size a_p1_halls_rows a_p1_halls_firsts a_p1_halls_lasts f_p1_posts_size a_p1_posts_cells a_p1_blocks 100 (0 : Int32) (0 : Int32) a_signs
theorem dX8_writeRow_0 : decode cX8_writeRow 0 = .ok (.aload_n 0, 1) := by decide +kernel
theorem dX8_writeRow_1 : decode cX8_writeRow 1 = .ok (.iconst 0, 1) := by decide +kernel
theorem dX8_writeRow_2 : decode cX8_writeRow 2 = .ok (.putfield 15, 3) := by decide +kernel
theorem dX8_writeRow_5 : decode cX8_writeRow 5 = .ok (.iconst 0, 1) := by decide +kernel
theorem dX8_writeRow_6 : decode cX8_writeRow 6 = .ok (.istore_n 3, 1) := by decide +kernel
theorem dX8_writeRow_7 : decode cX8_writeRow 7 = .ok (.iload_n 3, 1) := by decide +kernel
theorem dX8_writeRow_8 : decode cX8_writeRow 8 = .ok (.bipush 8, 2) := by decide +kernel
theorem dX8_writeRow_10 : decode cX8_writeRow 10 = .ok (.if_icmp .ge 22, 3) := by decide +kernel
theorem dX8_writeRow_13 : decode cX8_writeRow 13 = .ok (.aload_n 0, 1) := by decide +kernel
theorem dX8_writeRow_14 : decode cX8_writeRow 14 = .ok (.aload_n 1, 1) := by decide +kernel
theorem dX8_writeRow_15 : decode cX8_writeRow 15 = .ok (.iload_n 2, 1) := by decide +kernel
theorem dX8_writeRow_16 : decode cX8_writeRow 16 = .ok (.iload_n 3, 1) := by decide +kernel
theorem dX8_writeRow_17 : decode cX8_writeRow 17 = .ok (.invokestatic 19, 3) := by decide +kernel
theorem dX8_writeRow_20 : decode cX8_writeRow 20 = .ok (.invokestatic 25, 3) := by decide +kernel
theorem dX8_writeRow_23 : decode cX8_writeRow 23 = .ok (.invokevirtual 29, 3) := by decide +kernel
theorem dX8_writeRow_26 : decode cX8_writeRow 26 = .ok (.iinc 3 1, 3) := by decide +kernel
theorem dX8_writeRow_29 : decode cX8_writeRow 29 = .ok (.goto (-22), 3) := by decide +kernel
theorem dX8_writeRow_32 : decode cX8_writeRow 32 = .ok (.aload_n 0, 1) := by decide +kernel
theorem dX8_writeRow_33 : decode cX8_writeRow 33 = .ok (.getfield 15, 3) := by decide +kernel
theorem dX8_writeRow_36 : decode cX8_writeRow 36 = .ok (.ireturn, 1) := by decide +kernel
theorem k_X8_writeRow : cardV yX8_writeRow (Cond.code yX8_writeRow cX8_writeRow 4 (some .int)) 2 := ⟨⟨qi_X8_writeRow, qv_X8_writeRow⟩, qc_X8_writeRow, qn_X8, by decide +kernel, by decide +kernel, by decide +kernel⟩
set_option maxHeartbeats 4000000 in
set_option maxRecDepth 100000 in
theorem c_X8_writeRow (l : Launch) (D : va_G) (g : Nat → ClassId) (q_this q_signs q_p1 q_p1_houses q_p1_halls q_p1_posts q_p1_blocks q_p1_kinds q_p1_houses_cells q_p1_houses_froms q_p1_houses_tos q_p1_houses_rings q_p1_houses_pranks q_p1_halls_rows q_p1_halls_firsts q_p1_halls_lasts q_p1_posts_cells q_p1_posts_tolds : Nat) (p2 : Int32) (f_size : Int32) (a_signs : Nat → Int32) (f_p1_hour : Int32) (f_p1_day : Int32) (f_p1_prankHouse : Int32) (f_p1_bells : Int32) (f_p1_echoes : Int32) (f_p1_bellPranks : Int32) (f_p1_houses_size : Int32) (a_p1_houses_cells : Nat → Int32) (f_p1_halls_size : Int32) (a_p1_halls_rows : Nat → Int32) (a_p1_halls_firsts : Nat → Int32) (a_p1_halls_lasts : Nat → Int32) (f_p1_posts_size : Int32) (a_p1_posts_cells : Nat → Int32) (a_p1_blocks : Nat → Int32) (o : Int32 × Int32 × (Nat → Int32)) (h : F_X8_writeRow p2 f_p1_houses_size a_p1_houses_cells f_p1_halls_size a_p1_halls_rows a_p1_halls_firsts a_p1_halls_lasts f_p1_posts_size a_p1_posts_cells a_p1_blocks f_size a_signs = some o) : MW l yX8_writeRow (Cond.code yX8_writeRow cX8_writeRow 4 (some .int)) { frames := 3, cells := 0, slots := 0, locals := 67 } D g [.ref q_this, .ref q_p1, .int p2] [(q_this, .inr (8, [.ref q_signs, .int f_size])), (q_signs, .inl (g 1, 20, .inl a_signs)), (q_p1, .inr (9, [.ref q_p1_houses, .ref q_p1_halls, .ref q_p1_posts, .ref q_p1_blocks, .ref q_p1_kinds, .int f_p1_hour, .int f_p1_day, .int f_p1_prankHouse, .int f_p1_bells, .int f_p1_echoes, .int f_p1_bellPranks])), (q_p1_houses, .inr (3, [.int f_p1_houses_size, .ref q_p1_houses_cells, .ref q_p1_houses_froms, .ref q_p1_houses_tos, .ref q_p1_houses_rings, .ref q_p1_houses_pranks])), (q_p1_houses_cells, .inl (g 0, 10, .inl a_p1_houses_cells)), (q_p1_halls, .inr (2, [.int f_p1_halls_size, .ref q_p1_halls_rows, .ref q_p1_halls_firsts, .ref q_p1_halls_lasts])), (q_p1_halls_rows, .inl (g 0, 4, .inl a_p1_halls_rows)), (q_p1_halls_firsts, .inl (g 0, 4, .inl a_p1_halls_firsts)), (q_p1_halls_lasts, .inl (g 0, 4, .inl a_p1_halls_lasts)), (q_p1_posts, .inr (6, [.int f_p1_posts_size, .ref q_p1_posts_cells, .ref q_p1_posts_tolds])), (q_p1_posts_cells, .inl (g 0, 4, .inl a_p1_posts_cells)), (q_p1_blocks, .inl (g 0, 64, .inl a_p1_blocks))] (some (.int o.1)) [(q_this, .inr (8, [.ref q_signs, .int o.2.1])), (q_signs, .inl (g 1, 20, .inl o.2.2)), (q_p1, .inr (9, [.ref q_p1_houses, .ref q_p1_halls, .ref q_p1_posts, .ref q_p1_blocks, .ref q_p1_kinds, .int f_p1_hour, .int f_p1_day, .int f_p1_prankHouse, .int f_p1_bells, .int f_p1_echoes, .int f_p1_bellPranks])), (q_p1_houses, .inr (3, [.int f_p1_houses_size, .ref q_p1_houses_cells, .ref q_p1_houses_froms, .ref q_p1_houses_tos, .ref q_p1_houses_rings, .ref q_p1_houses_pranks])), (q_p1_houses_cells, .inl (g 0, 10, .inl a_p1_houses_cells)), (q_p1_halls, .inr (2, [.int f_p1_halls_size, .ref q_p1_halls_rows, .ref q_p1_halls_firsts, .ref q_p1_halls_lasts])), (q_p1_halls_rows, .inl (g 0, 4, .inl a_p1_halls_rows)), (q_p1_halls_firsts, .inl (g 0, 4, .inl a_p1_halls_firsts)), (q_p1_halls_lasts, .inl (g 0, 4, .inl a_p1_halls_lasts)), (q_p1_posts, .inr (6, [.int f_p1_posts_size, .ref q_p1_posts_cells, .ref q_p1_posts_tolds])), (q_p1_posts_cells, .inl (g 0, 4, .inl a_p1_posts_cells)), (q_p1_blocks, .inl (g 0, 64, .inl a_p1_blocks))] := by
  refine z_wr_start (by decide) (Nat.le_of_ble_eq_true rfl) ?_
  intro p e s m args below meth c Q A X hr hQ hA
  refine z_lv (lv' := [(0, .ref q_this), (1, .ref q_p1), (2, .int p2)]) rfl ?_
  have H7 : ∀ (n : Nat) (x3 : Int32) (f_size : Int32) (a_signs : Nat → Int32), L_X8_writeRow_7 p2 f_p1_houses_size a_p1_houses_cells f_p1_halls_size a_p1_halls_rows a_p1_halls_firsts a_p1_halls_lasts f_p1_posts_size a_p1_posts_cells a_p1_blocks  n x3 f_size a_signs = some o → Z p l e { frames := 3, cells := 0, slots := 0, locals := 67 } s m args below meth c Q 4 0 0 (IW D A s [(q_this, .inr (8, [.ref q_signs, .int f_size])), (q_signs, .inl (g 1, 20, .inl a_signs)), (q_p1, .inr (9, [.ref q_p1_houses, .ref q_p1_halls, .ref q_p1_posts, .ref q_p1_blocks, .ref q_p1_kinds, .int f_p1_hour, .int f_p1_day, .int f_p1_prankHouse, .int f_p1_bells, .int f_p1_echoes, .int f_p1_bellPranks])), (q_p1_houses, .inr (3, [.int f_p1_houses_size, .ref q_p1_houses_cells, .ref q_p1_houses_froms, .ref q_p1_houses_tos, .ref q_p1_houses_rings, .ref q_p1_houses_pranks])), (q_p1_houses_cells, .inl (g 0, 10, .inl a_p1_houses_cells)), (q_p1_halls, .inr (2, [.int f_p1_halls_size, .ref q_p1_halls_rows, .ref q_p1_halls_firsts, .ref q_p1_halls_lasts])), (q_p1_halls_rows, .inl (g 0, 4, .inl a_p1_halls_rows)), (q_p1_halls_firsts, .inl (g 0, 4, .inl a_p1_halls_firsts)), (q_p1_halls_lasts, .inl (g 0, 4, .inl a_p1_halls_lasts)), (q_p1_posts, .inr (6, [.int f_p1_posts_size, .ref q_p1_posts_cells, .ref q_p1_posts_tolds])), (q_p1_posts_cells, .inl (g 0, 4, .inl a_p1_posts_cells)), (q_p1_blocks, .inl (g 0, 64, .inl a_p1_blocks))]) 7 [(0, .ref q_this), (1, .ref q_p1), (2, .int p2), (3, .int x3)] [] := by
    intro n
    induction n with
    | zero => intro x3 f_size a_signs h; cases h
    | succ n7 ih7 =>
      intro x3 f_size a_signs h
      refine z_iload_n X 3 dX8_writeRow_7 rfl rfl ?_
      refine z_bipush X (8 : Int32) dX8_writeRow_8 (by decide) ?_
      refine z_icmp_ge X 32 dX8_writeRow_10 (by decide) h (fun _ h => ?_) (fun _ h => ?_)
      · refine z_aload_n X 0 dX8_writeRow_32 rfl rfl ?_
        refine z_get (q0 := 0) (k := 1) (ci := 8) X IW_P iw_X8 rfl qf_X8_X8_size (by decide) dX8_writeRow_33 rfl rfl ?_
        cases h
        exact z_iretW X hQ hA hr dX8_writeRow_36
      · refine z_aload_n X 0 dX8_writeRow_13 rfl rfl ?_
        refine z_aload_n X 1 dX8_writeRow_14 rfl rfl ?_
        refine z_iload_n X 2 dX8_writeRow_15 rfl rfl ?_
        refine z_iload_n X 3 dX8_writeRow_16 rfl rfl ?_
        obtain ⟨o1, e2, h⟩ := bnd_p h
        refine z_rdS (rest := [.ref q_p1, .ref q_this]) X IW_P k_X0_cellAt (c_X0_cellAt l D g p2 x3 o1 e2) ql_X8_X0_cellAt dX8_writeRow_17 [] rfl rfl rfl ⟨Nat.le_of_ble_eq_true rfl, Nat.le_of_ble_eq_true rfl, rfl, rfl, Nat.le_of_ble_eq_true rfl, Nat.le_of_ble_eq_true rfl⟩ (Nat.le_of_ble_eq_true rfl) ?_
        obtain ⟨o3, e4, h⟩ := bnd_p h
        refine z_rdS (rest := [.ref q_this]) X IW_P k_X8_signOf (c_X8_signOf l D g q_p1 q_p1_houses q_p1_halls q_p1_posts q_p1_blocks q_p1_kinds q_p1_houses_cells q_p1_houses_froms q_p1_houses_tos q_p1_houses_rings q_p1_houses_pranks q_p1_halls_rows q_p1_halls_firsts q_p1_halls_lasts q_p1_posts_cells q_p1_posts_tolds o1 f_p1_hour f_p1_day f_p1_prankHouse f_p1_bells f_p1_echoes f_p1_bellPranks f_p1_houses_size a_p1_houses_cells f_p1_halls_size a_p1_halls_rows a_p1_halls_firsts a_p1_halls_lasts f_p1_posts_size a_p1_posts_cells a_p1_blocks o3 e4) ql_X8_X8_signOf dX8_writeRow_20 [2, 3, 4, 5, 6, 7, 8, 9, 10, 11] rfl rfl rfl ⟨Nat.le_of_ble_eq_true rfl, Nat.le_of_ble_eq_true rfl, rfl, rfl, Nat.le_of_ble_eq_true rfl, Nat.le_of_ble_eq_true rfl⟩ (Nat.le_of_ble_eq_true rfl) ?_
        obtain ⟨o5, e6, h⟩ := bnd_p h
        refine z_wrV (rest := []) (q0 := 0) (ci := 8) (ws' := [(q_this, .inr (8, [.ref q_signs, .int o5.1])), (q_signs, .inl (g 1, 20, .inl o5.2)), (q_p1, .inr (9, [.ref q_p1_houses, .ref q_p1_halls, .ref q_p1_posts, .ref q_p1_blocks, .ref q_p1_kinds, .int f_p1_hour, .int f_p1_day, .int f_p1_prankHouse, .int f_p1_bells, .int f_p1_echoes, .int f_p1_bellPranks])), (q_p1_houses, .inr (3, [.int f_p1_houses_size, .ref q_p1_houses_cells, .ref q_p1_houses_froms, .ref q_p1_houses_tos, .ref q_p1_houses_rings, .ref q_p1_houses_pranks])), (q_p1_houses_cells, .inl (g 0, 10, .inl a_p1_houses_cells)), (q_p1_halls, .inr (2, [.int f_p1_halls_size, .ref q_p1_halls_rows, .ref q_p1_halls_firsts, .ref q_p1_halls_lasts])), (q_p1_halls_rows, .inl (g 0, 4, .inl a_p1_halls_rows)), (q_p1_halls_firsts, .inl (g 0, 4, .inl a_p1_halls_firsts)), (q_p1_halls_lasts, .inl (g 0, 4, .inl a_p1_halls_lasts)), (q_p1_posts, .inr (6, [.int f_p1_posts_size, .ref q_p1_posts_cells, .ref q_p1_posts_tolds])), (q_p1_posts_cells, .inl (g 0, 4, .inl a_p1_posts_cells)), (q_p1_blocks, .inl (g 0, 64, .inl a_p1_blocks))]) (wr := [(q_p1, .inr (9, [.ref q_p1_houses, .ref q_p1_halls, .ref q_p1_posts, .ref q_p1_blocks, .ref q_p1_kinds, .int f_p1_hour, .int f_p1_day, .int f_p1_prankHouse, .int f_p1_bells, .int f_p1_echoes, .int f_p1_bellPranks])), (q_p1_houses, .inr (3, [.int f_p1_houses_size, .ref q_p1_houses_cells, .ref q_p1_houses_froms, .ref q_p1_houses_tos, .ref q_p1_houses_rings, .ref q_p1_houses_pranks])), (q_p1_houses_cells, .inl (g 0, 10, .inl a_p1_houses_cells)), (q_p1_halls, .inr (2, [.int f_p1_halls_size, .ref q_p1_halls_rows, .ref q_p1_halls_firsts, .ref q_p1_halls_lasts])), (q_p1_halls_rows, .inl (g 0, 4, .inl a_p1_halls_rows)), (q_p1_halls_firsts, .inl (g 0, 4, .inl a_p1_halls_firsts)), (q_p1_halls_lasts, .inl (g 0, 4, .inl a_p1_halls_lasts)), (q_p1_posts, .inr (6, [.int f_p1_posts_size, .ref q_p1_posts_cells, .ref q_p1_posts_tolds])), (q_p1_posts_cells, .inl (g 0, 4, .inl a_p1_posts_cells)), (q_p1_blocks, .inl (g 0, 64, .inl a_p1_blocks))]) (as := [q_this, q_signs, q_p1, q_p1_houses, q_p1_houses_cells, q_p1_halls, q_p1_halls_rows, q_p1_halls_firsts, q_p1_halls_lasts, q_p1_posts, q_p1_posts_cells, q_p1_blocks]) X k_X8_putSign (c_X8_putSign l D g q_this q_signs o3 f_size a_signs o5 e6) ql_X8_X8_putSign dX8_writeRow_23 [0, 1] [2, 3, 4, 5, 6, 7, 8, 9, 10, 11] ⟨rfl, rfl, rfl, rfl, rfl, rfl, rfl, rfl⟩ rfl rfl rfl rfl rfl ⟨Nat.le_of_ble_eq_true rfl, Nat.le_of_ble_eq_true rfl, rfl, rfl, Nat.le_of_ble_eq_true rfl, Nat.le_of_ble_eq_true rfl⟩ (Nat.le_of_ble_eq_true rfl) ?_
        refine z_iinc X 3 [(3, .int (x3 + 1)), (0, .ref q_this), (1, .ref q_p1), (2, .int p2)] dX8_writeRow_26 rfl rfl (by decide) rfl ?_
        refine z_goto X 7 dX8_writeRow_29 (by decide) ?_
        refine z_sub (lv' := [(0, .ref q_this), (1, .ref q_p1), (2, .int p2), (3, .int (x3 + 1))]) [1, 2, 3, 0] rfl ?_
        exact ih7 (x3 + 1) o5.1 o5.2 h
  refine z_aload_n X 0 dX8_writeRow_0 rfl rfl ?_
  refine z_iconst X (0 : Int32) dX8_writeRow_1 (by decide) ?_
  refine z_put (q0 := 0) (k := 1) (ci := 8) (ws' := [(q_this, .inr (8, [.ref q_signs, .int (0 : Int32)])), (q_signs, .inl (g 1, 20, .inl a_signs)), (q_p1, .inr (9, [.ref q_p1_houses, .ref q_p1_halls, .ref q_p1_posts, .ref q_p1_blocks, .ref q_p1_kinds, .int f_p1_hour, .int f_p1_day, .int f_p1_prankHouse, .int f_p1_bells, .int f_p1_echoes, .int f_p1_bellPranks])), (q_p1_houses, .inr (3, [.int f_p1_houses_size, .ref q_p1_houses_cells, .ref q_p1_houses_froms, .ref q_p1_houses_tos, .ref q_p1_houses_rings, .ref q_p1_houses_pranks])), (q_p1_houses_cells, .inl (g 0, 10, .inl a_p1_houses_cells)), (q_p1_halls, .inr (2, [.int f_p1_halls_size, .ref q_p1_halls_rows, .ref q_p1_halls_firsts, .ref q_p1_halls_lasts])), (q_p1_halls_rows, .inl (g 0, 4, .inl a_p1_halls_rows)), (q_p1_halls_firsts, .inl (g 0, 4, .inl a_p1_halls_firsts)), (q_p1_halls_lasts, .inl (g 0, 4, .inl a_p1_halls_lasts)), (q_p1_posts, .inr (6, [.int f_p1_posts_size, .ref q_p1_posts_cells, .ref q_p1_posts_tolds])), (q_p1_posts_cells, .inl (g 0, 4, .inl a_p1_posts_cells)), (q_p1_blocks, .inl (g 0, 64, .inl a_p1_blocks))]) X iw_X8 tyX8_ok nmX8 rfl qf_X8_X8_size (by decide) rfl rfl dX8_writeRow_2 rfl rfl rfl (Nat.le_of_ble_eq_true rfl) rfl ?_
  refine z_iconst X (0 : Int32) dX8_writeRow_5 (by decide) ?_
  refine z_istore_n X [(3, .int (0 : Int32)), (0, .ref q_this), (1, .ref q_p1), (2, .int p2)] dX8_writeRow_6 rfl (by decide) rfl ?_
  refine z_sub (lv' := [(0, .ref q_this), (1, .ref q_p1), (2, .int p2), (3, .int (0 : Int32))]) [1, 2, 3, 0] rfl ?_
  exact H7 100 (0 : Int32) (0 : Int32) a_signs h

def J_X8_putNumber_17 (p1 : Int32) (f_size : Int32) (a_signs : Nat → Int32) : Option (Int32 × (Nat → Int32)) :=
  bnd (F_X8_digit (p1 - p1 / (10 : Int32) * (10 : Int32))) (fun o1 => bnd (F_X8_putSign o1 f_size a_signs) (fun o3 => some (o3.1, o3.2)))

def F_X8_putNumber (p1 : Int32) (f_size : Int32) (a_signs : Nat → Int32) : Option (Int32 × (Nat → Int32)) :=
  brn (p1 < (10 : Int32)) (J_X8_putNumber_17 p1 f_size a_signs) (bnd (F_X8_digit (p1 / (10 : Int32))) (fun o5 => bnd (F_X8_putSign o5 f_size a_signs) (fun o7 => J_X8_putNumber_17 p1 o7.1 o7.2)))
theorem dX8_putNumber_0 : decode cX8_putNumber 0 = .ok (.iload_n 1, 1) := by decide +kernel
theorem dX8_putNumber_1 : decode cX8_putNumber 1 = .ok (.bipush 10, 2) := by decide +kernel
theorem dX8_putNumber_3 : decode cX8_putNumber 3 = .ok (.if_icmp .lt 14, 3) := by decide +kernel
theorem dX8_putNumber_6 : decode cX8_putNumber 6 = .ok (.aload_n 0, 1) := by decide +kernel
theorem dX8_putNumber_7 : decode cX8_putNumber 7 = .ok (.iload_n 1, 1) := by decide +kernel
theorem dX8_putNumber_8 : decode cX8_putNumber 8 = .ok (.bipush 10, 2) := by decide +kernel
theorem dX8_putNumber_10 : decode cX8_putNumber 10 = .ok (.idiv, 1) := by decide +kernel
theorem dX8_putNumber_11 : decode cX8_putNumber 11 = .ok (.invokestatic 45, 3) := by decide +kernel
theorem dX8_putNumber_14 : decode cX8_putNumber 14 = .ok (.invokevirtual 29, 3) := by decide +kernel
theorem dX8_putNumber_17 : decode cX8_putNumber 17 = .ok (.aload_n 0, 1) := by decide +kernel
theorem dX8_putNumber_18 : decode cX8_putNumber 18 = .ok (.iload_n 1, 1) := by decide +kernel
theorem dX8_putNumber_19 : decode cX8_putNumber 19 = .ok (.bipush 10, 2) := by decide +kernel
theorem dX8_putNumber_21 : decode cX8_putNumber 21 = .ok (.irem, 1) := by decide +kernel
theorem dX8_putNumber_22 : decode cX8_putNumber 22 = .ok (.invokestatic 45, 3) := by decide +kernel
theorem dX8_putNumber_25 : decode cX8_putNumber 25 = .ok (.invokevirtual 29, 3) := by decide +kernel
theorem dX8_putNumber_28 : decode cX8_putNumber 28 = .ok (.return_, 1) := by decide +kernel
theorem k_X8_putNumber : cardV yX8_putNumber (Cond.code yX8_putNumber cX8_putNumber 2 none) 1 := ⟨⟨qi_X8_putNumber, qv_X8_putNumber⟩, qc_X8_putNumber, qn_X8, by decide +kernel, by decide +kernel, by decide +kernel⟩
set_option maxHeartbeats 4000000 in
set_option maxRecDepth 100000 in
theorem c_X8_putNumber (l : Launch) (D : va_G) (g : Nat → ClassId) (q_this q_signs : Nat) (p1 : Int32) (f_size : Int32) (a_signs : Nat → Int32) (o : Int32 × (Nat → Int32)) (h : F_X8_putNumber p1 f_size a_signs = some o) : MW l yX8_putNumber (Cond.code yX8_putNumber cX8_putNumber 2 none) { frames := 1, cells := 0, slots := 0, locals := 21 } D g [.ref q_this, .int p1] [(q_this, .inr (8, [.ref q_signs, .int f_size])), (q_signs, .inl (g 1, 20, .inl a_signs))] none [(q_this, .inr (8, [.ref q_signs, .int o.1])), (q_signs, .inl (g 1, 20, .inl o.2))] := by
  refine z_wr_start (by decide) (Nat.le_of_ble_eq_true rfl) ?_
  intro p e s m args below meth c Q A X hr hQ hA
  refine z_lv (lv' := [(0, .ref q_this), (1, .int p1)]) rfl ?_
  have H17 : ∀ (f_size : Int32) (a_signs : Nat → Int32), J_X8_putNumber_17 p1 f_size a_signs = some o → Z p l e { frames := 1, cells := 0, slots := 0, locals := 21 } s m args below meth c Q 2 0 0 (IW D A s [(q_this, .inr (8, [.ref q_signs, .int f_size])), (q_signs, .inl (g 1, 20, .inl a_signs))]) 17 [(0, .ref q_this), (1, .int p1)] [] := by
    intro f_size a_signs h
    refine z_aload_n X 0 dX8_putNumber_17 rfl rfl ?_
    refine z_iload_n X 1 dX8_putNumber_18 rfl rfl ?_
    refine z_bipush X (10 : Int32) dX8_putNumber_19 (by decide) ?_
    refine z_irem X dX8_putNumber_21 (by decide) ?_
    obtain ⟨o1, e2, h⟩ := bnd_p h
    refine z_rdS (rest := [.ref q_this]) X IW_P k_X8_digit (c_X8_digit l D g (p1 - p1 / (10 : Int32) * (10 : Int32)) o1 e2) ql_X8_X8_digit dX8_putNumber_22 [] rfl rfl rfl ⟨Nat.le_of_ble_eq_true rfl, Nat.le_of_ble_eq_true rfl, rfl, rfl, Nat.le_of_ble_eq_true rfl, Nat.le_of_ble_eq_true rfl⟩ (Nat.le_of_ble_eq_true rfl) ?_
    obtain ⟨o3, e4, h⟩ := bnd_p h
    refine z_wrV (rest := []) (q0 := 0) (ci := 8) (ws' := [(q_this, .inr (8, [.ref q_signs, .int o3.1])), (q_signs, .inl (g 1, 20, .inl o3.2))]) (wr := []) (as := [q_this, q_signs]) X k_X8_putSign (c_X8_putSign l D g q_this q_signs o1 f_size a_signs o3 e4) ql_X8_X8_putSign dX8_putNumber_25 [0, 1] [] ⟨rfl, rfl, rfl, rfl, rfl, rfl, rfl, rfl⟩ rfl rfl rfl rfl rfl ⟨Nat.le_of_ble_eq_true rfl, Nat.le_of_ble_eq_true rfl, rfl, rfl, Nat.le_of_ble_eq_true rfl, Nat.le_of_ble_eq_true rfl⟩ (Nat.le_of_ble_eq_true rfl) ?_
    cases h
    exact z_vretW X hQ hA hr dX8_putNumber_28
  refine z_iload_n X 1 dX8_putNumber_0 rfl rfl ?_
  refine z_bipush X (10 : Int32) dX8_putNumber_1 (by decide) ?_
  refine z_icmp_lt X 17 dX8_putNumber_3 (by decide) h (fun _ h => ?_) (fun _ h => ?_)
  · exact H17 f_size a_signs h
  · refine z_aload_n X 0 dX8_putNumber_6 rfl rfl ?_
    refine z_iload_n X 1 dX8_putNumber_7 rfl rfl ?_
    refine z_bipush X (10 : Int32) dX8_putNumber_8 (by decide) ?_
    refine z_idiv X dX8_putNumber_10 (by decide) ?_
    obtain ⟨o5, e6, h⟩ := bnd_p h
    refine z_rdS (rest := [.ref q_this]) X IW_P k_X8_digit (c_X8_digit l D g (p1 / (10 : Int32)) o5 e6) ql_X8_X8_digit dX8_putNumber_11 [] rfl rfl rfl ⟨Nat.le_of_ble_eq_true rfl, Nat.le_of_ble_eq_true rfl, rfl, rfl, Nat.le_of_ble_eq_true rfl, Nat.le_of_ble_eq_true rfl⟩ (Nat.le_of_ble_eq_true rfl) ?_
    obtain ⟨o7, e8, h⟩ := bnd_p h
    refine z_wrV (rest := []) (q0 := 0) (ci := 8) (ws' := [(q_this, .inr (8, [.ref q_signs, .int o7.1])), (q_signs, .inl (g 1, 20, .inl o7.2))]) (wr := []) (as := [q_this, q_signs]) X k_X8_putSign (c_X8_putSign l D g q_this q_signs o5 f_size a_signs o7 e8) ql_X8_X8_putSign dX8_putNumber_14 [0, 1] [] ⟨rfl, rfl, rfl, rfl, rfl, rfl, rfl, rfl⟩ rfl rfl rfl rfl rfl ⟨Nat.le_of_ble_eq_true rfl, Nat.le_of_ble_eq_true rfl, rfl, rfl, Nat.le_of_ble_eq_true rfl, Nat.le_of_ble_eq_true rfl⟩ (Nat.le_of_ble_eq_true rfl) ?_
    exact H17 o7.1 o7.2 h

def J_X8_writeHouse_110 (p2 : Int32) (p3 : Int32) (a_p1_cells : Nat → Int32) (a_p1_froms : Nat → Int32) (a_p1_tos : Nat → Int32) (a_p1_pranks : Nat → Int32) (f_size : Int32) (a_signs : Nat → Int32) : Option (Int32 × Int32 × (Nat → Int32)) :=
  some (f_size, f_size, a_signs)

def L_X8_writeHouse_81 (p2 : Int32) (p3 : Int32) (a_p1_cells : Nat → Int32) (a_p1_froms : Nat → Int32) (a_p1_tos : Nat → Int32) (a_p1_pranks : Nat → Int32) : Nat → Int32 → (Int32) → (Nat → Int32) → Option (Int32 × Int32 × (Nat → Int32))
  | 0, _, _, _ => none
  | _n + 1, x4, f_size, a_signs =>
    brn ((9 : Int32) ≤ x4) (J_X8_writeHouse_110 p2 p3 a_p1_cells a_p1_froms a_p1_tos a_p1_pranks f_size a_signs) (bnd (F_X2_pranksAt p2 a_p1_pranks) (fun o13 => brn (o13 ≤ x4) (J_X8_writeHouse_110 p2 p3 a_p1_cells a_p1_froms a_p1_tos a_p1_pranks f_size a_signs) (bnd (F_X8_putSign (33 : Int32) f_size a_signs) (fun o15 => L_X8_writeHouse_81 p2 p3 a_p1_cells a_p1_froms a_p1_tos a_p1_pranks _n (x4 + 1) o15.1 o15.2))))

def J_X8_writeHouse_78 (p2 : Int32) (p3 : Int32) (a_p1_cells : Nat → Int32) (a_p1_froms : Nat → Int32) (a_p1_tos : Nat → Int32) (a_p1_pranks : Nat → Int32) (f_size : Int32) (a_signs : Nat → Int32) : Option (Int32 × Int32 × (Nat → Int32)) :=
  L_X8_writeHouse_81 p2 p3 a_p1_cells a_p1_froms a_p1_tos a_p1_pranks 100 (0 : Int32) f_size a_signs

def J_X8_writeHouse_63 (p2 : Int32) (p3 : Int32) (a_p1_cells : Nat → Int32) (a_p1_froms : Nat → Int32) (a_p1_tos : Nat → Int32) (a_p1_pranks : Nat → Int32) (f_size : Int32) (a_signs : Nat → Int32) : Option (Int32 × Int32 × (Nat → Int32)) :=
  bnd (F_X2_isAsleep p2 p3 a_p1_froms a_p1_tos) (fun o11 => brn (o11 = 0) (J_X8_writeHouse_78 p2 p3 a_p1_cells a_p1_froms a_p1_tos a_p1_pranks f_size a_signs) (bnd (F_X8_putSign (122 : Int32) f_size a_signs) (fun o17 => J_X8_writeHouse_78 p2 p3 a_p1_cells a_p1_froms a_p1_tos a_p1_pranks o17.1 o17.2)))

def F_X8_writeHouse (p2 : Int32) (p3 : Int32) (a_p1_cells : Nat → Int32) (a_p1_froms : Nat → Int32) (a_p1_tos : Nat → Int32) (a_p1_pranks : Nat → Int32) (f_size : Int32) (a_signs : Nat → Int32) : Option (Int32 × Int32 × (Nat → Int32)) :=
  bnd (F_X8_putNumber p2 (0 : Int32) a_signs) (fun o1 => bnd (F_X8_putSign (64 : Int32) o1.1 o1.2) (fun o3 => bnd (F_X2_cellAt p2 a_p1_cells) (fun o5 => bnd (F_X8_putNumber o5 o3.1 o3.2) (fun o7 => bnd (F_X2_sleepAt p2 a_p1_froms a_p1_tos) (fun o9 => brn (o9 ≤ 0) (J_X8_writeHouse_63 p2 p3 a_p1_cells a_p1_froms a_p1_tos a_p1_pranks o7.1 o7.2) (bnd (F_X8_putSign (32 : Int32) o7.1 o7.2) (fun o19 => bnd (F_X2_fromAt p2 a_p1_froms) (fun o21 => bnd (F_X8_putNumber o21 o19.1 o19.2) (fun o23 => bnd (F_X8_putSign (45 : Int32) o23.1 o23.2) (fun o25 => bnd (F_X2_toAt p2 a_p1_tos) (fun o27 => bnd (F_X8_putNumber o27 o25.1 o25.2) (fun o29 => J_X8_writeHouse_63 p2 p3 a_p1_cells a_p1_froms a_p1_tos a_p1_pranks o29.1 o29.2))))))))))))
theorem dX8_writeHouse_0 : decode cX8_writeHouse 0 = .ok (.aload_n 0, 1) := by decide +kernel
theorem dX8_writeHouse_1 : decode cX8_writeHouse 1 = .ok (.iconst 0, 1) := by decide +kernel
theorem dX8_writeHouse_2 : decode cX8_writeHouse 2 = .ok (.putfield 15, 3) := by decide +kernel
theorem dX8_writeHouse_5 : decode cX8_writeHouse 5 = .ok (.aload_n 0, 1) := by decide +kernel
theorem dX8_writeHouse_6 : decode cX8_writeHouse 6 = .ok (.iload_n 2, 1) := by decide +kernel
theorem dX8_writeHouse_7 : decode cX8_writeHouse 7 = .ok (.invokevirtual 69, 3) := by decide +kernel
theorem dX8_writeHouse_10 : decode cX8_writeHouse 10 = .ok (.aload_n 0, 1) := by decide +kernel
theorem dX8_writeHouse_11 : decode cX8_writeHouse 11 = .ok (.bipush 64, 2) := by decide +kernel
theorem dX8_writeHouse_13 : decode cX8_writeHouse 13 = .ok (.invokevirtual 29, 3) := by decide +kernel
theorem dX8_writeHouse_16 : decode cX8_writeHouse 16 = .ok (.aload_n 0, 1) := by decide +kernel
theorem dX8_writeHouse_17 : decode cX8_writeHouse 17 = .ok (.aload_n 1, 1) := by decide +kernel
theorem dX8_writeHouse_18 : decode cX8_writeHouse 18 = .ok (.iload_n 2, 1) := by decide +kernel
theorem dX8_writeHouse_19 : decode cX8_writeHouse 19 = .ok (.invokevirtual 73, 3) := by decide +kernel
theorem dX8_writeHouse_22 : decode cX8_writeHouse 22 = .ok (.invokevirtual 69, 3) := by decide +kernel
theorem dX8_writeHouse_25 : decode cX8_writeHouse 25 = .ok (.aload_n 1, 1) := by decide +kernel
theorem dX8_writeHouse_26 : decode cX8_writeHouse 26 = .ok (.iload_n 2, 1) := by decide +kernel
theorem dX8_writeHouse_27 : decode cX8_writeHouse 27 = .ok (.invokevirtual 75, 3) := by decide +kernel
theorem dX8_writeHouse_30 : decode cX8_writeHouse 30 = .ok (.ifCond .le 33, 3) := by decide +kernel
theorem dX8_writeHouse_33 : decode cX8_writeHouse 33 = .ok (.aload_n 0, 1) := by decide +kernel
theorem dX8_writeHouse_34 : decode cX8_writeHouse 34 = .ok (.bipush 32, 2) := by decide +kernel
theorem dX8_writeHouse_36 : decode cX8_writeHouse 36 = .ok (.invokevirtual 29, 3) := by decide +kernel
theorem dX8_writeHouse_39 : decode cX8_writeHouse 39 = .ok (.aload_n 0, 1) := by decide +kernel
theorem dX8_writeHouse_40 : decode cX8_writeHouse 40 = .ok (.aload_n 1, 1) := by decide +kernel
theorem dX8_writeHouse_41 : decode cX8_writeHouse 41 = .ok (.iload_n 2, 1) := by decide +kernel
theorem dX8_writeHouse_42 : decode cX8_writeHouse 42 = .ok (.invokevirtual 78, 3) := by decide +kernel
theorem dX8_writeHouse_45 : decode cX8_writeHouse 45 = .ok (.invokevirtual 69, 3) := by decide +kernel
theorem dX8_writeHouse_48 : decode cX8_writeHouse 48 = .ok (.aload_n 0, 1) := by decide +kernel
theorem dX8_writeHouse_49 : decode cX8_writeHouse 49 = .ok (.bipush 45, 2) := by decide +kernel
theorem dX8_writeHouse_51 : decode cX8_writeHouse 51 = .ok (.invokevirtual 29, 3) := by decide +kernel
theorem dX8_writeHouse_54 : decode cX8_writeHouse 54 = .ok (.aload_n 0, 1) := by decide +kernel
theorem dX8_writeHouse_55 : decode cX8_writeHouse 55 = .ok (.aload_n 1, 1) := by decide +kernel
theorem dX8_writeHouse_56 : decode cX8_writeHouse 56 = .ok (.iload_n 2, 1) := by decide +kernel
theorem dX8_writeHouse_57 : decode cX8_writeHouse 57 = .ok (.invokevirtual 81, 3) := by decide +kernel
theorem dX8_writeHouse_60 : decode cX8_writeHouse 60 = .ok (.invokevirtual 69, 3) := by decide +kernel
theorem dX8_writeHouse_63 : decode cX8_writeHouse 63 = .ok (.aload_n 1, 1) := by decide +kernel
theorem dX8_writeHouse_64 : decode cX8_writeHouse 64 = .ok (.iload_n 2, 1) := by decide +kernel
theorem dX8_writeHouse_65 : decode cX8_writeHouse 65 = .ok (.iload_n 3, 1) := by decide +kernel
theorem dX8_writeHouse_66 : decode cX8_writeHouse 66 = .ok (.invokevirtual 84, 3) := by decide +kernel
theorem dX8_writeHouse_69 : decode cX8_writeHouse 69 = .ok (.ifCond .eq 9, 3) := by decide +kernel
theorem dX8_writeHouse_72 : decode cX8_writeHouse 72 = .ok (.aload_n 0, 1) := by decide +kernel
theorem dX8_writeHouse_73 : decode cX8_writeHouse 73 = .ok (.bipush 122, 2) := by decide +kernel
theorem dX8_writeHouse_75 : decode cX8_writeHouse 75 = .ok (.invokevirtual 29, 3) := by decide +kernel
theorem dX8_writeHouse_78 : decode cX8_writeHouse 78 = .ok (.iconst 0, 1) := by decide +kernel
theorem dX8_writeHouse_79 : decode cX8_writeHouse 79 = .ok (.istore 4, 2) := by decide +kernel
theorem dX8_writeHouse_81 : decode cX8_writeHouse 81 = .ok (.iload 4, 2) := by decide +kernel
theorem dX8_writeHouse_83 : decode cX8_writeHouse 83 = .ok (.bipush 9, 2) := by decide +kernel
theorem dX8_writeHouse_85 : decode cX8_writeHouse 85 = .ok (.if_icmp .ge 25, 3) := by decide +kernel
theorem dX8_writeHouse_88 : decode cX8_writeHouse 88 = .ok (.iload 4, 2) := by decide +kernel
theorem dX8_writeHouse_90 : decode cX8_writeHouse 90 = .ok (.aload_n 1, 1) := by decide +kernel
theorem dX8_writeHouse_91 : decode cX8_writeHouse 91 = .ok (.iload_n 2, 1) := by decide +kernel
theorem dX8_writeHouse_92 : decode cX8_writeHouse 92 = .ok (.invokevirtual 88, 3) := by decide +kernel
theorem dX8_writeHouse_95 : decode cX8_writeHouse 95 = .ok (.if_icmp .ge 15, 3) := by decide +kernel
theorem dX8_writeHouse_98 : decode cX8_writeHouse 98 = .ok (.aload_n 0, 1) := by decide +kernel
theorem dX8_writeHouse_99 : decode cX8_writeHouse 99 = .ok (.bipush 33, 2) := by decide +kernel
theorem dX8_writeHouse_101 : decode cX8_writeHouse 101 = .ok (.invokevirtual 29, 3) := by decide +kernel
theorem dX8_writeHouse_104 : decode cX8_writeHouse 104 = .ok (.iinc 4 1, 3) := by decide +kernel
theorem dX8_writeHouse_107 : decode cX8_writeHouse 107 = .ok (.goto (-26), 3) := by decide +kernel
theorem dX8_writeHouse_110 : decode cX8_writeHouse 110 = .ok (.aload_n 0, 1) := by decide +kernel
theorem dX8_writeHouse_111 : decode cX8_writeHouse 111 = .ok (.getfield 15, 3) := by decide +kernel
theorem dX8_writeHouse_114 : decode cX8_writeHouse 114 = .ok (.ireturn, 1) := by decide +kernel
theorem k_X8_writeHouse : cardV yX8_writeHouse (Cond.code yX8_writeHouse cX8_writeHouse 5 (some .int)) 3 := ⟨⟨qi_X8_writeHouse, qv_X8_writeHouse⟩, qc_X8_writeHouse, qn_X8, by decide +kernel, by decide +kernel, by decide +kernel⟩
set_option maxHeartbeats 4000000 in
set_option maxRecDepth 100000 in
theorem c_X8_writeHouse (l : Launch) (D : va_G) (g : Nat → ClassId) (q_this q_signs q_p1 q_p1_cells q_p1_froms q_p1_tos q_p1_rings q_p1_pranks : Nat) (p2 p3 : Int32) (f_size : Int32) (a_signs : Nat → Int32) (f_p1_size : Int32) (a_p1_cells : Nat → Int32) (a_p1_froms : Nat → Int32) (a_p1_tos : Nat → Int32) (a_p1_pranks : Nat → Int32) (o : Int32 × Int32 × (Nat → Int32)) (h : F_X8_writeHouse p2 p3 a_p1_cells a_p1_froms a_p1_tos a_p1_pranks f_size a_signs = some o) : MW l yX8_writeHouse (Cond.code yX8_writeHouse cX8_writeHouse 5 (some .int)) { frames := 3, cells := 0, slots := 0, locals := 63 } D g [.ref q_this, .ref q_p1, .int p2, .int p3] [(q_this, .inr (8, [.ref q_signs, .int f_size])), (q_signs, .inl (g 1, 20, .inl a_signs)), (q_p1, .inr (3, [.int f_p1_size, .ref q_p1_cells, .ref q_p1_froms, .ref q_p1_tos, .ref q_p1_rings, .ref q_p1_pranks])), (q_p1_cells, .inl (g 0, 10, .inl a_p1_cells)), (q_p1_froms, .inl (g 0, 10, .inl a_p1_froms)), (q_p1_tos, .inl (g 0, 10, .inl a_p1_tos)), (q_p1_pranks, .inl (g 0, 10, .inl a_p1_pranks))] (some (.int o.1)) [(q_this, .inr (8, [.ref q_signs, .int o.2.1])), (q_signs, .inl (g 1, 20, .inl o.2.2)), (q_p1, .inr (3, [.int f_p1_size, .ref q_p1_cells, .ref q_p1_froms, .ref q_p1_tos, .ref q_p1_rings, .ref q_p1_pranks])), (q_p1_cells, .inl (g 0, 10, .inl a_p1_cells)), (q_p1_froms, .inl (g 0, 10, .inl a_p1_froms)), (q_p1_tos, .inl (g 0, 10, .inl a_p1_tos)), (q_p1_pranks, .inl (g 0, 10, .inl a_p1_pranks))] := by
  refine z_wr_start (by decide) (Nat.le_of_ble_eq_true rfl) ?_
  intro p e s m args below meth c Q A X hr hQ hA
  refine z_lv (lv' := [(0, .ref q_this), (1, .ref q_p1), (2, .int p2), (3, .int p3)]) rfl ?_
  have H110 : ∀ (f_size : Int32) (a_signs : Nat → Int32), J_X8_writeHouse_110 p2 p3 a_p1_cells a_p1_froms a_p1_tos a_p1_pranks f_size a_signs = some o → Z p l e { frames := 3, cells := 0, slots := 0, locals := 63 } s m args below meth c Q 5 0 0 (IW D A s [(q_this, .inr (8, [.ref q_signs, .int f_size])), (q_signs, .inl (g 1, 20, .inl a_signs)), (q_p1, .inr (3, [.int f_p1_size, .ref q_p1_cells, .ref q_p1_froms, .ref q_p1_tos, .ref q_p1_rings, .ref q_p1_pranks])), (q_p1_cells, .inl (g 0, 10, .inl a_p1_cells)), (q_p1_froms, .inl (g 0, 10, .inl a_p1_froms)), (q_p1_tos, .inl (g 0, 10, .inl a_p1_tos)), (q_p1_pranks, .inl (g 0, 10, .inl a_p1_pranks))]) 110 [(0, .ref q_this)] [] := by
    intro f_size a_signs h
    refine z_aload_n X 0 dX8_writeHouse_110 rfl rfl ?_
    refine z_get (q0 := 0) (k := 1) (ci := 8) X IW_P iw_X8 rfl qf_X8_X8_size (by decide) dX8_writeHouse_111 rfl rfl ?_
    cases h
    exact z_iretW X hQ hA hr dX8_writeHouse_114
  have H81 : ∀ (n : Nat) (x4 : Int32) (f_size : Int32) (a_signs : Nat → Int32), L_X8_writeHouse_81 p2 p3 a_p1_cells a_p1_froms a_p1_tos a_p1_pranks  n x4 f_size a_signs = some o → Z p l e { frames := 3, cells := 0, slots := 0, locals := 63 } s m args below meth c Q 5 0 0 (IW D A s [(q_this, .inr (8, [.ref q_signs, .int f_size])), (q_signs, .inl (g 1, 20, .inl a_signs)), (q_p1, .inr (3, [.int f_p1_size, .ref q_p1_cells, .ref q_p1_froms, .ref q_p1_tos, .ref q_p1_rings, .ref q_p1_pranks])), (q_p1_cells, .inl (g 0, 10, .inl a_p1_cells)), (q_p1_froms, .inl (g 0, 10, .inl a_p1_froms)), (q_p1_tos, .inl (g 0, 10, .inl a_p1_tos)), (q_p1_pranks, .inl (g 0, 10, .inl a_p1_pranks))]) 81 [(0, .ref q_this), (1, .ref q_p1), (2, .int p2), (4, .int x4)] [] := by
    intro n
    induction n with
    | zero => intro x4 f_size a_signs h; cases h
    | succ n81 ih81 =>
      intro x4 f_size a_signs h
      refine z_iload X 3 dX8_writeHouse_81 rfl ?_
      refine z_bipush X (9 : Int32) dX8_writeHouse_83 (by decide) ?_
      refine z_icmp_ge X 110 dX8_writeHouse_85 (by decide) h (fun _ h => ?_) (fun _ h => ?_)
      · refine z_sub (lv' := [(0, .ref q_this)]) [0] rfl ?_
        exact H110 f_size a_signs h
      · refine z_iload X 3 dX8_writeHouse_88 rfl ?_
        refine z_aload_n X 1 dX8_writeHouse_90 rfl rfl ?_
        refine z_iload_n X 2 dX8_writeHouse_91 rfl rfl ?_
        obtain ⟨o13, e14, h⟩ := bnd_p h
        refine z_rdV (rest := [.int x4]) (q0 := 2) (ci := 3) X IW_P k_X2_pranksAt (c_X2_pranksAt l D g q_p1 q_p1_cells q_p1_froms q_p1_tos q_p1_rings q_p1_pranks p2 f_p1_size a_p1_pranks o13 e14) ql_X8_X2_pranksAt dX8_writeHouse_92 [2, 6] rfl rfl rfl rfl rfl rfl ⟨Nat.le_of_ble_eq_true rfl, Nat.le_of_ble_eq_true rfl, rfl, rfl, Nat.le_of_ble_eq_true rfl, Nat.le_of_ble_eq_true rfl⟩ (Nat.le_of_ble_eq_true rfl) ?_
        refine z_icmp_ge X 110 dX8_writeHouse_95 (by decide) h (fun _ h => ?_) (fun _ h => ?_)
        · refine z_sub (lv' := [(0, .ref q_this)]) [0] rfl ?_
          exact H110 f_size a_signs h
        · refine z_aload_n X 0 dX8_writeHouse_98 rfl rfl ?_
          refine z_bipush X (33 : Int32) dX8_writeHouse_99 (by decide) ?_
          obtain ⟨o15, e16, h⟩ := bnd_p h
          refine z_wrV (rest := []) (q0 := 0) (ci := 8) (ws' := [(q_this, .inr (8, [.ref q_signs, .int o15.1])), (q_signs, .inl (g 1, 20, .inl o15.2)), (q_p1, .inr (3, [.int f_p1_size, .ref q_p1_cells, .ref q_p1_froms, .ref q_p1_tos, .ref q_p1_rings, .ref q_p1_pranks])), (q_p1_cells, .inl (g 0, 10, .inl a_p1_cells)), (q_p1_froms, .inl (g 0, 10, .inl a_p1_froms)), (q_p1_tos, .inl (g 0, 10, .inl a_p1_tos)), (q_p1_pranks, .inl (g 0, 10, .inl a_p1_pranks))]) (wr := [(q_p1, .inr (3, [.int f_p1_size, .ref q_p1_cells, .ref q_p1_froms, .ref q_p1_tos, .ref q_p1_rings, .ref q_p1_pranks])), (q_p1_cells, .inl (g 0, 10, .inl a_p1_cells)), (q_p1_froms, .inl (g 0, 10, .inl a_p1_froms)), (q_p1_tos, .inl (g 0, 10, .inl a_p1_tos)), (q_p1_pranks, .inl (g 0, 10, .inl a_p1_pranks))]) (as := [q_this, q_signs, q_p1, q_p1_cells, q_p1_froms, q_p1_tos, q_p1_pranks]) X k_X8_putSign (c_X8_putSign l D g q_this q_signs (33 : Int32) f_size a_signs o15 e16) ql_X8_X8_putSign dX8_writeHouse_101 [0, 1] [2, 3, 4, 5, 6] ⟨rfl, rfl, rfl, rfl, rfl, rfl, rfl, rfl⟩ rfl rfl rfl rfl rfl ⟨Nat.le_of_ble_eq_true rfl, Nat.le_of_ble_eq_true rfl, rfl, rfl, Nat.le_of_ble_eq_true rfl, Nat.le_of_ble_eq_true rfl⟩ (Nat.le_of_ble_eq_true rfl) ?_
          refine z_iinc X 3 [(4, .int (x4 + 1)), (0, .ref q_this), (1, .ref q_p1), (2, .int p2)] dX8_writeHouse_104 rfl rfl (by decide) rfl ?_
          refine z_goto X 81 dX8_writeHouse_107 (by decide) ?_
          refine z_sub (lv' := [(0, .ref q_this), (1, .ref q_p1), (2, .int p2), (4, .int (x4 + 1))]) [1, 2, 3, 0] rfl ?_
          exact ih81 (x4 + 1) o15.1 o15.2 h
  have H78 : ∀ (f_size : Int32) (a_signs : Nat → Int32), J_X8_writeHouse_78 p2 p3 a_p1_cells a_p1_froms a_p1_tos a_p1_pranks f_size a_signs = some o → Z p l e { frames := 3, cells := 0, slots := 0, locals := 63 } s m args below meth c Q 5 0 0 (IW D A s [(q_this, .inr (8, [.ref q_signs, .int f_size])), (q_signs, .inl (g 1, 20, .inl a_signs)), (q_p1, .inr (3, [.int f_p1_size, .ref q_p1_cells, .ref q_p1_froms, .ref q_p1_tos, .ref q_p1_rings, .ref q_p1_pranks])), (q_p1_cells, .inl (g 0, 10, .inl a_p1_cells)), (q_p1_froms, .inl (g 0, 10, .inl a_p1_froms)), (q_p1_tos, .inl (g 0, 10, .inl a_p1_tos)), (q_p1_pranks, .inl (g 0, 10, .inl a_p1_pranks))]) 78 [(0, .ref q_this), (1, .ref q_p1), (2, .int p2)] [] := by
    intro f_size a_signs h
    refine z_iconst X (0 : Int32) dX8_writeHouse_78 (by decide) ?_
    refine z_istore X [(4, .int (0 : Int32)), (0, .ref q_this), (1, .ref q_p1), (2, .int p2)] dX8_writeHouse_79 (by decide) rfl ?_
    refine z_sub (lv' := [(0, .ref q_this), (1, .ref q_p1), (2, .int p2), (4, .int (0 : Int32))]) [1, 2, 3, 0] rfl ?_
    exact H81 100 (0 : Int32) f_size a_signs h
  have H63 : ∀ (f_size : Int32) (a_signs : Nat → Int32), J_X8_writeHouse_63 p2 p3 a_p1_cells a_p1_froms a_p1_tos a_p1_pranks f_size a_signs = some o → Z p l e { frames := 3, cells := 0, slots := 0, locals := 63 } s m args below meth c Q 5 0 0 (IW D A s [(q_this, .inr (8, [.ref q_signs, .int f_size])), (q_signs, .inl (g 1, 20, .inl a_signs)), (q_p1, .inr (3, [.int f_p1_size, .ref q_p1_cells, .ref q_p1_froms, .ref q_p1_tos, .ref q_p1_rings, .ref q_p1_pranks])), (q_p1_cells, .inl (g 0, 10, .inl a_p1_cells)), (q_p1_froms, .inl (g 0, 10, .inl a_p1_froms)), (q_p1_tos, .inl (g 0, 10, .inl a_p1_tos)), (q_p1_pranks, .inl (g 0, 10, .inl a_p1_pranks))]) 63 [(0, .ref q_this), (1, .ref q_p1), (2, .int p2), (3, .int p3)] [] := by
    intro f_size a_signs h
    refine z_aload_n X 1 dX8_writeHouse_63 rfl rfl ?_
    refine z_iload_n X 2 dX8_writeHouse_64 rfl rfl ?_
    refine z_iload_n X 3 dX8_writeHouse_65 rfl rfl ?_
    obtain ⟨o11, e12, h⟩ := bnd_p h
    refine z_rdV (rest := []) (q0 := 2) (ci := 3) X IW_P k_X2_isAsleep (c_X2_isAsleep l D g q_p1 q_p1_cells q_p1_froms q_p1_tos q_p1_rings q_p1_pranks p2 p3 f_p1_size a_p1_froms a_p1_tos o11 e12) ql_X8_X2_isAsleep dX8_writeHouse_66 [2, 4, 5] rfl rfl rfl rfl rfl rfl ⟨Nat.le_of_ble_eq_true rfl, Nat.le_of_ble_eq_true rfl, rfl, rfl, Nat.le_of_ble_eq_true rfl, Nat.le_of_ble_eq_true rfl⟩ (Nat.le_of_ble_eq_true rfl) ?_
    refine z_if_eq X 78 dX8_writeHouse_69 (by decide) h (fun _ h => ?_) (fun _ h => ?_)
    · refine z_sub (lv' := [(0, .ref q_this), (1, .ref q_p1), (2, .int p2)]) [0, 1, 2] rfl ?_
      exact H78 f_size a_signs h
    · refine z_aload_n X 0 dX8_writeHouse_72 rfl rfl ?_
      refine z_bipush X (122 : Int32) dX8_writeHouse_73 (by decide) ?_
      obtain ⟨o17, e18, h⟩ := bnd_p h
      refine z_wrV (rest := []) (q0 := 0) (ci := 8) (ws' := [(q_this, .inr (8, [.ref q_signs, .int o17.1])), (q_signs, .inl (g 1, 20, .inl o17.2)), (q_p1, .inr (3, [.int f_p1_size, .ref q_p1_cells, .ref q_p1_froms, .ref q_p1_tos, .ref q_p1_rings, .ref q_p1_pranks])), (q_p1_cells, .inl (g 0, 10, .inl a_p1_cells)), (q_p1_froms, .inl (g 0, 10, .inl a_p1_froms)), (q_p1_tos, .inl (g 0, 10, .inl a_p1_tos)), (q_p1_pranks, .inl (g 0, 10, .inl a_p1_pranks))]) (wr := [(q_p1, .inr (3, [.int f_p1_size, .ref q_p1_cells, .ref q_p1_froms, .ref q_p1_tos, .ref q_p1_rings, .ref q_p1_pranks])), (q_p1_cells, .inl (g 0, 10, .inl a_p1_cells)), (q_p1_froms, .inl (g 0, 10, .inl a_p1_froms)), (q_p1_tos, .inl (g 0, 10, .inl a_p1_tos)), (q_p1_pranks, .inl (g 0, 10, .inl a_p1_pranks))]) (as := [q_this, q_signs, q_p1, q_p1_cells, q_p1_froms, q_p1_tos, q_p1_pranks]) X k_X8_putSign (c_X8_putSign l D g q_this q_signs (122 : Int32) f_size a_signs o17 e18) ql_X8_X8_putSign dX8_writeHouse_75 [0, 1] [2, 3, 4, 5, 6] ⟨rfl, rfl, rfl, rfl, rfl, rfl, rfl, rfl⟩ rfl rfl rfl rfl rfl ⟨Nat.le_of_ble_eq_true rfl, Nat.le_of_ble_eq_true rfl, rfl, rfl, Nat.le_of_ble_eq_true rfl, Nat.le_of_ble_eq_true rfl⟩ (Nat.le_of_ble_eq_true rfl) ?_
      refine z_sub (lv' := [(0, .ref q_this), (1, .ref q_p1), (2, .int p2)]) [0, 1, 2] rfl ?_
      exact H78 o17.1 o17.2 h
  refine z_aload_n X 0 dX8_writeHouse_0 rfl rfl ?_
  refine z_iconst X (0 : Int32) dX8_writeHouse_1 (by decide) ?_
  refine z_put (q0 := 0) (k := 1) (ci := 8) (ws' := [(q_this, .inr (8, [.ref q_signs, .int (0 : Int32)])), (q_signs, .inl (g 1, 20, .inl a_signs)), (q_p1, .inr (3, [.int f_p1_size, .ref q_p1_cells, .ref q_p1_froms, .ref q_p1_tos, .ref q_p1_rings, .ref q_p1_pranks])), (q_p1_cells, .inl (g 0, 10, .inl a_p1_cells)), (q_p1_froms, .inl (g 0, 10, .inl a_p1_froms)), (q_p1_tos, .inl (g 0, 10, .inl a_p1_tos)), (q_p1_pranks, .inl (g 0, 10, .inl a_p1_pranks))]) X iw_X8 tyX8_ok nmX8 rfl qf_X8_X8_size (by decide) rfl rfl dX8_writeHouse_2 rfl rfl rfl (Nat.le_of_ble_eq_true rfl) rfl ?_
  refine z_aload_n X 0 dX8_writeHouse_5 rfl rfl ?_
  refine z_iload_n X 2 dX8_writeHouse_6 rfl rfl ?_
  obtain ⟨o1, e2, h⟩ := bnd_p h
  refine z_wrV (rest := []) (q0 := 0) (ci := 8) (ws' := [(q_this, .inr (8, [.ref q_signs, .int o1.1])), (q_signs, .inl (g 1, 20, .inl o1.2)), (q_p1, .inr (3, [.int f_p1_size, .ref q_p1_cells, .ref q_p1_froms, .ref q_p1_tos, .ref q_p1_rings, .ref q_p1_pranks])), (q_p1_cells, .inl (g 0, 10, .inl a_p1_cells)), (q_p1_froms, .inl (g 0, 10, .inl a_p1_froms)), (q_p1_tos, .inl (g 0, 10, .inl a_p1_tos)), (q_p1_pranks, .inl (g 0, 10, .inl a_p1_pranks))]) (wr := [(q_p1, .inr (3, [.int f_p1_size, .ref q_p1_cells, .ref q_p1_froms, .ref q_p1_tos, .ref q_p1_rings, .ref q_p1_pranks])), (q_p1_cells, .inl (g 0, 10, .inl a_p1_cells)), (q_p1_froms, .inl (g 0, 10, .inl a_p1_froms)), (q_p1_tos, .inl (g 0, 10, .inl a_p1_tos)), (q_p1_pranks, .inl (g 0, 10, .inl a_p1_pranks))]) (as := [q_this, q_signs, q_p1, q_p1_cells, q_p1_froms, q_p1_tos, q_p1_pranks]) X k_X8_putNumber (c_X8_putNumber l D g q_this q_signs p2 (0 : Int32) a_signs o1 e2) ql_X8_X8_putNumber dX8_writeHouse_7 [0, 1] [2, 3, 4, 5, 6] ⟨rfl, rfl, rfl, rfl, rfl, rfl, rfl, rfl⟩ rfl rfl rfl rfl rfl ⟨Nat.le_of_ble_eq_true rfl, Nat.le_of_ble_eq_true rfl, rfl, rfl, Nat.le_of_ble_eq_true rfl, Nat.le_of_ble_eq_true rfl⟩ (Nat.le_of_ble_eq_true rfl) ?_
  refine z_aload_n X 0 dX8_writeHouse_10 rfl rfl ?_
  refine z_bipush X (64 : Int32) dX8_writeHouse_11 (by decide) ?_
  obtain ⟨o3, e4, h⟩ := bnd_p h
  refine z_wrV (rest := []) (q0 := 0) (ci := 8) (ws' := [(q_this, .inr (8, [.ref q_signs, .int o3.1])), (q_signs, .inl (g 1, 20, .inl o3.2)), (q_p1, .inr (3, [.int f_p1_size, .ref q_p1_cells, .ref q_p1_froms, .ref q_p1_tos, .ref q_p1_rings, .ref q_p1_pranks])), (q_p1_cells, .inl (g 0, 10, .inl a_p1_cells)), (q_p1_froms, .inl (g 0, 10, .inl a_p1_froms)), (q_p1_tos, .inl (g 0, 10, .inl a_p1_tos)), (q_p1_pranks, .inl (g 0, 10, .inl a_p1_pranks))]) (wr := [(q_p1, .inr (3, [.int f_p1_size, .ref q_p1_cells, .ref q_p1_froms, .ref q_p1_tos, .ref q_p1_rings, .ref q_p1_pranks])), (q_p1_cells, .inl (g 0, 10, .inl a_p1_cells)), (q_p1_froms, .inl (g 0, 10, .inl a_p1_froms)), (q_p1_tos, .inl (g 0, 10, .inl a_p1_tos)), (q_p1_pranks, .inl (g 0, 10, .inl a_p1_pranks))]) (as := [q_this, q_signs, q_p1, q_p1_cells, q_p1_froms, q_p1_tos, q_p1_pranks]) X k_X8_putSign (c_X8_putSign l D g q_this q_signs (64 : Int32) o1.1 o1.2 o3 e4) ql_X8_X8_putSign dX8_writeHouse_13 [0, 1] [2, 3, 4, 5, 6] ⟨rfl, rfl, rfl, rfl, rfl, rfl, rfl, rfl⟩ rfl rfl rfl rfl rfl ⟨Nat.le_of_ble_eq_true rfl, Nat.le_of_ble_eq_true rfl, rfl, rfl, Nat.le_of_ble_eq_true rfl, Nat.le_of_ble_eq_true rfl⟩ (Nat.le_of_ble_eq_true rfl) ?_
  refine z_aload_n X 0 dX8_writeHouse_16 rfl rfl ?_
  refine z_aload_n X 1 dX8_writeHouse_17 rfl rfl ?_
  refine z_iload_n X 2 dX8_writeHouse_18 rfl rfl ?_
  obtain ⟨o5, e6, h⟩ := bnd_p h
  refine z_rdV (rest := [.ref q_this]) (q0 := 2) (ci := 3) X IW_P k_X2_cellAt (c_X2_cellAt l D g q_p1 q_p1_cells q_p1_froms q_p1_tos q_p1_rings q_p1_pranks p2 f_p1_size a_p1_cells o5 e6) ql_X8_X2_cellAt dX8_writeHouse_19 [2, 3] rfl rfl rfl rfl rfl rfl ⟨Nat.le_of_ble_eq_true rfl, Nat.le_of_ble_eq_true rfl, rfl, rfl, Nat.le_of_ble_eq_true rfl, Nat.le_of_ble_eq_true rfl⟩ (Nat.le_of_ble_eq_true rfl) ?_
  obtain ⟨o7, e8, h⟩ := bnd_p h
  refine z_wrV (rest := []) (q0 := 0) (ci := 8) (ws' := [(q_this, .inr (8, [.ref q_signs, .int o7.1])), (q_signs, .inl (g 1, 20, .inl o7.2)), (q_p1, .inr (3, [.int f_p1_size, .ref q_p1_cells, .ref q_p1_froms, .ref q_p1_tos, .ref q_p1_rings, .ref q_p1_pranks])), (q_p1_cells, .inl (g 0, 10, .inl a_p1_cells)), (q_p1_froms, .inl (g 0, 10, .inl a_p1_froms)), (q_p1_tos, .inl (g 0, 10, .inl a_p1_tos)), (q_p1_pranks, .inl (g 0, 10, .inl a_p1_pranks))]) (wr := [(q_p1, .inr (3, [.int f_p1_size, .ref q_p1_cells, .ref q_p1_froms, .ref q_p1_tos, .ref q_p1_rings, .ref q_p1_pranks])), (q_p1_cells, .inl (g 0, 10, .inl a_p1_cells)), (q_p1_froms, .inl (g 0, 10, .inl a_p1_froms)), (q_p1_tos, .inl (g 0, 10, .inl a_p1_tos)), (q_p1_pranks, .inl (g 0, 10, .inl a_p1_pranks))]) (as := [q_this, q_signs, q_p1, q_p1_cells, q_p1_froms, q_p1_tos, q_p1_pranks]) X k_X8_putNumber (c_X8_putNumber l D g q_this q_signs o5 o3.1 o3.2 o7 e8) ql_X8_X8_putNumber dX8_writeHouse_22 [0, 1] [2, 3, 4, 5, 6] ⟨rfl, rfl, rfl, rfl, rfl, rfl, rfl, rfl⟩ rfl rfl rfl rfl rfl ⟨Nat.le_of_ble_eq_true rfl, Nat.le_of_ble_eq_true rfl, rfl, rfl, Nat.le_of_ble_eq_true rfl, Nat.le_of_ble_eq_true rfl⟩ (Nat.le_of_ble_eq_true rfl) ?_
  refine z_aload_n X 1 dX8_writeHouse_25 rfl rfl ?_
  refine z_iload_n X 2 dX8_writeHouse_26 rfl rfl ?_
  obtain ⟨o9, e10, h⟩ := bnd_p h
  refine z_rdV (rest := []) (q0 := 2) (ci := 3) X IW_P k_X2_sleepAt (c_X2_sleepAt l D g q_p1 q_p1_cells q_p1_froms q_p1_tos q_p1_rings q_p1_pranks p2 f_p1_size a_p1_froms a_p1_tos o9 e10) ql_X8_X2_sleepAt dX8_writeHouse_27 [2, 4, 5] rfl rfl rfl rfl rfl rfl ⟨Nat.le_of_ble_eq_true rfl, Nat.le_of_ble_eq_true rfl, rfl, rfl, Nat.le_of_ble_eq_true rfl, Nat.le_of_ble_eq_true rfl⟩ (Nat.le_of_ble_eq_true rfl) ?_
  refine z_if_le X 63 dX8_writeHouse_30 (by decide) h (fun _ h => ?_) (fun _ h => ?_)
  · exact H63 o7.1 o7.2 h
  · refine z_aload_n X 0 dX8_writeHouse_33 rfl rfl ?_
    refine z_bipush X (32 : Int32) dX8_writeHouse_34 (by decide) ?_
    obtain ⟨o19, e20, h⟩ := bnd_p h
    refine z_wrV (rest := []) (q0 := 0) (ci := 8) (ws' := [(q_this, .inr (8, [.ref q_signs, .int o19.1])), (q_signs, .inl (g 1, 20, .inl o19.2)), (q_p1, .inr (3, [.int f_p1_size, .ref q_p1_cells, .ref q_p1_froms, .ref q_p1_tos, .ref q_p1_rings, .ref q_p1_pranks])), (q_p1_cells, .inl (g 0, 10, .inl a_p1_cells)), (q_p1_froms, .inl (g 0, 10, .inl a_p1_froms)), (q_p1_tos, .inl (g 0, 10, .inl a_p1_tos)), (q_p1_pranks, .inl (g 0, 10, .inl a_p1_pranks))]) (wr := [(q_p1, .inr (3, [.int f_p1_size, .ref q_p1_cells, .ref q_p1_froms, .ref q_p1_tos, .ref q_p1_rings, .ref q_p1_pranks])), (q_p1_cells, .inl (g 0, 10, .inl a_p1_cells)), (q_p1_froms, .inl (g 0, 10, .inl a_p1_froms)), (q_p1_tos, .inl (g 0, 10, .inl a_p1_tos)), (q_p1_pranks, .inl (g 0, 10, .inl a_p1_pranks))]) (as := [q_this, q_signs, q_p1, q_p1_cells, q_p1_froms, q_p1_tos, q_p1_pranks]) X k_X8_putSign (c_X8_putSign l D g q_this q_signs (32 : Int32) o7.1 o7.2 o19 e20) ql_X8_X8_putSign dX8_writeHouse_36 [0, 1] [2, 3, 4, 5, 6] ⟨rfl, rfl, rfl, rfl, rfl, rfl, rfl, rfl⟩ rfl rfl rfl rfl rfl ⟨Nat.le_of_ble_eq_true rfl, Nat.le_of_ble_eq_true rfl, rfl, rfl, Nat.le_of_ble_eq_true rfl, Nat.le_of_ble_eq_true rfl⟩ (Nat.le_of_ble_eq_true rfl) ?_
    refine z_aload_n X 0 dX8_writeHouse_39 rfl rfl ?_
    refine z_aload_n X 1 dX8_writeHouse_40 rfl rfl ?_
    refine z_iload_n X 2 dX8_writeHouse_41 rfl rfl ?_
    obtain ⟨o21, e22, h⟩ := bnd_p h
    refine z_rdV (rest := [.ref q_this]) (q0 := 2) (ci := 3) X IW_P k_X2_fromAt (c_X2_fromAt l D g q_p1 q_p1_cells q_p1_froms q_p1_tos q_p1_rings q_p1_pranks p2 f_p1_size a_p1_froms o21 e22) ql_X8_X2_fromAt dX8_writeHouse_42 [2, 4] rfl rfl rfl rfl rfl rfl ⟨Nat.le_of_ble_eq_true rfl, Nat.le_of_ble_eq_true rfl, rfl, rfl, Nat.le_of_ble_eq_true rfl, Nat.le_of_ble_eq_true rfl⟩ (Nat.le_of_ble_eq_true rfl) ?_
    obtain ⟨o23, e24, h⟩ := bnd_p h
    refine z_wrV (rest := []) (q0 := 0) (ci := 8) (ws' := [(q_this, .inr (8, [.ref q_signs, .int o23.1])), (q_signs, .inl (g 1, 20, .inl o23.2)), (q_p1, .inr (3, [.int f_p1_size, .ref q_p1_cells, .ref q_p1_froms, .ref q_p1_tos, .ref q_p1_rings, .ref q_p1_pranks])), (q_p1_cells, .inl (g 0, 10, .inl a_p1_cells)), (q_p1_froms, .inl (g 0, 10, .inl a_p1_froms)), (q_p1_tos, .inl (g 0, 10, .inl a_p1_tos)), (q_p1_pranks, .inl (g 0, 10, .inl a_p1_pranks))]) (wr := [(q_p1, .inr (3, [.int f_p1_size, .ref q_p1_cells, .ref q_p1_froms, .ref q_p1_tos, .ref q_p1_rings, .ref q_p1_pranks])), (q_p1_cells, .inl (g 0, 10, .inl a_p1_cells)), (q_p1_froms, .inl (g 0, 10, .inl a_p1_froms)), (q_p1_tos, .inl (g 0, 10, .inl a_p1_tos)), (q_p1_pranks, .inl (g 0, 10, .inl a_p1_pranks))]) (as := [q_this, q_signs, q_p1, q_p1_cells, q_p1_froms, q_p1_tos, q_p1_pranks]) X k_X8_putNumber (c_X8_putNumber l D g q_this q_signs o21 o19.1 o19.2 o23 e24) ql_X8_X8_putNumber dX8_writeHouse_45 [0, 1] [2, 3, 4, 5, 6] ⟨rfl, rfl, rfl, rfl, rfl, rfl, rfl, rfl⟩ rfl rfl rfl rfl rfl ⟨Nat.le_of_ble_eq_true rfl, Nat.le_of_ble_eq_true rfl, rfl, rfl, Nat.le_of_ble_eq_true rfl, Nat.le_of_ble_eq_true rfl⟩ (Nat.le_of_ble_eq_true rfl) ?_
    refine z_aload_n X 0 dX8_writeHouse_48 rfl rfl ?_
    refine z_bipush X (45 : Int32) dX8_writeHouse_49 (by decide) ?_
    obtain ⟨o25, e26, h⟩ := bnd_p h
    refine z_wrV (rest := []) (q0 := 0) (ci := 8) (ws' := [(q_this, .inr (8, [.ref q_signs, .int o25.1])), (q_signs, .inl (g 1, 20, .inl o25.2)), (q_p1, .inr (3, [.int f_p1_size, .ref q_p1_cells, .ref q_p1_froms, .ref q_p1_tos, .ref q_p1_rings, .ref q_p1_pranks])), (q_p1_cells, .inl (g 0, 10, .inl a_p1_cells)), (q_p1_froms, .inl (g 0, 10, .inl a_p1_froms)), (q_p1_tos, .inl (g 0, 10, .inl a_p1_tos)), (q_p1_pranks, .inl (g 0, 10, .inl a_p1_pranks))]) (wr := [(q_p1, .inr (3, [.int f_p1_size, .ref q_p1_cells, .ref q_p1_froms, .ref q_p1_tos, .ref q_p1_rings, .ref q_p1_pranks])), (q_p1_cells, .inl (g 0, 10, .inl a_p1_cells)), (q_p1_froms, .inl (g 0, 10, .inl a_p1_froms)), (q_p1_tos, .inl (g 0, 10, .inl a_p1_tos)), (q_p1_pranks, .inl (g 0, 10, .inl a_p1_pranks))]) (as := [q_this, q_signs, q_p1, q_p1_cells, q_p1_froms, q_p1_tos, q_p1_pranks]) X k_X8_putSign (c_X8_putSign l D g q_this q_signs (45 : Int32) o23.1 o23.2 o25 e26) ql_X8_X8_putSign dX8_writeHouse_51 [0, 1] [2, 3, 4, 5, 6] ⟨rfl, rfl, rfl, rfl, rfl, rfl, rfl, rfl⟩ rfl rfl rfl rfl rfl ⟨Nat.le_of_ble_eq_true rfl, Nat.le_of_ble_eq_true rfl, rfl, rfl, Nat.le_of_ble_eq_true rfl, Nat.le_of_ble_eq_true rfl⟩ (Nat.le_of_ble_eq_true rfl) ?_
    refine z_aload_n X 0 dX8_writeHouse_54 rfl rfl ?_
    refine z_aload_n X 1 dX8_writeHouse_55 rfl rfl ?_
    refine z_iload_n X 2 dX8_writeHouse_56 rfl rfl ?_
    obtain ⟨o27, e28, h⟩ := bnd_p h
    refine z_rdV (rest := [.ref q_this]) (q0 := 2) (ci := 3) X IW_P k_X2_toAt (c_X2_toAt l D g q_p1 q_p1_cells q_p1_froms q_p1_tos q_p1_rings q_p1_pranks p2 f_p1_size a_p1_tos o27 e28) ql_X8_X2_toAt dX8_writeHouse_57 [2, 5] rfl rfl rfl rfl rfl rfl ⟨Nat.le_of_ble_eq_true rfl, Nat.le_of_ble_eq_true rfl, rfl, rfl, Nat.le_of_ble_eq_true rfl, Nat.le_of_ble_eq_true rfl⟩ (Nat.le_of_ble_eq_true rfl) ?_
    obtain ⟨o29, e30, h⟩ := bnd_p h
    refine z_wrV (rest := []) (q0 := 0) (ci := 8) (ws' := [(q_this, .inr (8, [.ref q_signs, .int o29.1])), (q_signs, .inl (g 1, 20, .inl o29.2)), (q_p1, .inr (3, [.int f_p1_size, .ref q_p1_cells, .ref q_p1_froms, .ref q_p1_tos, .ref q_p1_rings, .ref q_p1_pranks])), (q_p1_cells, .inl (g 0, 10, .inl a_p1_cells)), (q_p1_froms, .inl (g 0, 10, .inl a_p1_froms)), (q_p1_tos, .inl (g 0, 10, .inl a_p1_tos)), (q_p1_pranks, .inl (g 0, 10, .inl a_p1_pranks))]) (wr := [(q_p1, .inr (3, [.int f_p1_size, .ref q_p1_cells, .ref q_p1_froms, .ref q_p1_tos, .ref q_p1_rings, .ref q_p1_pranks])), (q_p1_cells, .inl (g 0, 10, .inl a_p1_cells)), (q_p1_froms, .inl (g 0, 10, .inl a_p1_froms)), (q_p1_tos, .inl (g 0, 10, .inl a_p1_tos)), (q_p1_pranks, .inl (g 0, 10, .inl a_p1_pranks))]) (as := [q_this, q_signs, q_p1, q_p1_cells, q_p1_froms, q_p1_tos, q_p1_pranks]) X k_X8_putNumber (c_X8_putNumber l D g q_this q_signs o27 o25.1 o25.2 o29 e30) ql_X8_X8_putNumber dX8_writeHouse_60 [0, 1] [2, 3, 4, 5, 6] ⟨rfl, rfl, rfl, rfl, rfl, rfl, rfl, rfl⟩ rfl rfl rfl rfl rfl ⟨Nat.le_of_ble_eq_true rfl, Nat.le_of_ble_eq_true rfl, rfl, rfl, Nat.le_of_ble_eq_true rfl, Nat.le_of_ble_eq_true rfl⟩ (Nat.le_of_ble_eq_true rfl) ?_
    exact H63 o29.1 o29.2 h

def F_X8_has (p1 : Int32) (f_size : Int32) : Option (Int32) :=
  brn (p1 < 0) (some ((0 : Int32))) (brn (f_size ≤ p1) (some ((0 : Int32))) (some ((1 : Int32))))
theorem dX8_has_0 : decode cX8_has 0 = .ok (.iload_n 1, 1) := by decide +kernel
theorem dX8_has_1 : decode cX8_has 1 = .ok (.ifCond .lt 15, 3) := by decide +kernel
theorem dX8_has_4 : decode cX8_has 4 = .ok (.iload_n 1, 1) := by decide +kernel
theorem dX8_has_5 : decode cX8_has 5 = .ok (.aload_n 0, 1) := by decide +kernel
theorem dX8_has_6 : decode cX8_has 6 = .ok (.getfield 15, 3) := by decide +kernel
theorem dX8_has_9 : decode cX8_has 9 = .ok (.if_icmp .ge 7, 3) := by decide +kernel
theorem dX8_has_12 : decode cX8_has 12 = .ok (.iconst 1, 1) := by decide +kernel
theorem dX8_has_13 : decode cX8_has 13 = .ok (.goto 4, 3) := by decide +kernel
theorem dX8_has_16 : decode cX8_has 16 = .ok (.iconst 0, 1) := by decide +kernel
theorem dX8_has_17 : decode cX8_has 17 = .ok (.ireturn, 1) := by decide +kernel
theorem k_X8_has : cardV yX8_has (Cond.code yX8_has cX8_has 2 (some .boolean)) 1 := ⟨⟨qi_X8_has, qv_X8_has⟩, qc_X8_has, qn_X8, by decide +kernel, by decide +kernel, by decide +kernel⟩
set_option maxHeartbeats 4000000 in
set_option maxRecDepth 100000 in
theorem c_X8_has (l : Launch) (D : va_G) (g : Nat → ClassId) (q_this q_signs : Nat) (p1 : Int32) (f_size : Int32) (o : Int32) (h : F_X8_has p1 f_size = some o) : MR l yX8_has (Cond.code yX8_has cX8_has 2 (some .boolean)) { frames := 0, cells := 0, slots := 0, locals := 0 } D g [.ref q_this, .int p1] [(q_this, .inr (8, [.ref q_signs, .int f_size]))] (some (.int o)) := by
  refine z_rd_start (by decide) (Nat.le_of_ble_eq_true rfl) ?_
  intro p e s m args below meth c Q X hr hQ
  refine z_lv (lv' := [(0, .ref q_this), (1, .int p1)]) rfl ?_
  refine z_iload_n X 1 dX8_has_0 rfl rfl ?_
  refine z_if_lt X 16 dX8_has_1 (by decide) h (fun _ h => ?_) (fun _ h => ?_)
  · refine z_iconst X (0 : Int32) dX8_has_16 (by decide) ?_
    exact z_zretR X hQ hr dX8_has_17 rfl h
  · refine z_iload_n X 1 dX8_has_4 rfl rfl ?_
    refine z_aload_n X 0 dX8_has_5 rfl rfl ?_
    refine z_get (q0 := 0) (k := 1) (ci := 8) X IR_P iw_X8 rfl qf_X8_X8_size (by decide) dX8_has_6 rfl rfl ?_
    refine z_icmp_ge X 16 dX8_has_9 (by decide) h (fun _ h => ?_) (fun _ h => ?_)
    · refine z_iconst X (0 : Int32) dX8_has_16 (by decide) ?_
      exact z_zretR X hQ hr dX8_has_17 rfl h
    · refine z_iconst X (1 : Int32) dX8_has_12 (by decide) ?_
      refine z_goto X 17 dX8_has_13 (by decide) ?_
      exact z_zretR X hQ hr dX8_has_17 rfl h

def F_X8_signAt (p1 : Int32) (a_signs : Nat → Int32) : Option (Int32) :=
  brn (p1 < 0) (grd (vp_nar .char (32 : Int32) = (32 : Int32)) (some ((32 : Int32)))) (brn ((20 : Int32) ≤ p1) (grd (vp_nar .char (32 : Int32) = (32 : Int32)) (some ((32 : Int32)))) (grd (inb p1 20) (grd (vp_nar .char (a_signs p1.toNatClampNeg) = (a_signs p1.toNatClampNeg)) (some (a_signs p1.toNatClampNeg)))))
theorem dX8_signAt_0 : decode cX8_signAt 0 = .ok (.iload_n 1, 1) := by decide +kernel
theorem dX8_signAt_1 : decode cX8_signAt 1 = .ok (.ifCond .lt 21, 3) := by decide +kernel
theorem dX8_signAt_4 : decode cX8_signAt 4 = .ok (.iload_n 1, 1) := by decide +kernel
theorem dX8_signAt_5 : decode cX8_signAt 5 = .ok (.aload_n 0, 1) := by decide +kernel
theorem dX8_signAt_6 : decode cX8_signAt 6 = .ok (.getfield 9, 3) := by decide +kernel
theorem dX8_signAt_9 : decode cX8_signAt 9 = .ok (.arraylength, 1) := by decide +kernel
theorem dX8_signAt_10 : decode cX8_signAt 10 = .ok (.if_icmp .ge 12, 3) := by decide +kernel
theorem dX8_signAt_13 : decode cX8_signAt 13 = .ok (.aload_n 0, 1) := by decide +kernel
theorem dX8_signAt_14 : decode cX8_signAt 14 = .ok (.getfield 9, 3) := by decide +kernel
theorem dX8_signAt_17 : decode cX8_signAt 17 = .ok (.iload_n 1, 1) := by decide +kernel
theorem dX8_signAt_18 : decode cX8_signAt 18 = .ok (.caload, 1) := by decide +kernel
theorem dX8_signAt_19 : decode cX8_signAt 19 = .ok (.goto 5, 3) := by decide +kernel
theorem dX8_signAt_22 : decode cX8_signAt 22 = .ok (.bipush 32, 2) := by decide +kernel
theorem dX8_signAt_24 : decode cX8_signAt 24 = .ok (.ireturn, 1) := by decide +kernel
theorem k_X8_signAt : cardV yX8_signAt (Cond.code yX8_signAt cX8_signAt 2 (some .char)) 1 := ⟨⟨qi_X8_signAt, qv_X8_signAt⟩, qc_X8_signAt, qn_X8, by decide +kernel, by decide +kernel, by decide +kernel⟩
set_option maxHeartbeats 4000000 in
set_option maxRecDepth 100000 in
theorem c_X8_signAt (l : Launch) (D : va_G) (g : Nat → ClassId) (q_this q_signs : Nat) (p1 : Int32) (f_size : Int32) (a_signs : Nat → Int32) (o : Int32) (h : F_X8_signAt p1 a_signs = some o) : MR l yX8_signAt (Cond.code yX8_signAt cX8_signAt 2 (some .char)) { frames := 0, cells := 0, slots := 0, locals := 0 } D g [.ref q_this, .int p1] [(q_this, .inr (8, [.ref q_signs, .int f_size])), (q_signs, .inl (g 1, 20, .inl a_signs))] (some (.int o)) := by
  refine z_rd_start (by decide) (Nat.le_of_ble_eq_true rfl) ?_
  intro p e s m args below meth c Q X hr hQ
  refine z_lv (lv' := [(0, .ref q_this), (1, .int p1)]) rfl ?_
  refine z_iload_n X 1 dX8_signAt_0 rfl rfl ?_
  refine z_if_lt X 22 dX8_signAt_1 (by decide) h (fun _ h => ?_) (fun _ h => ?_)
  · refine z_bipush X (32 : Int32) dX8_signAt_22 (by decide) ?_
    obtain ⟨e1, h⟩ := grd_p h
    exact z_zretR X hQ hr dX8_signAt_24 (nar_char e1) h
  · refine z_iload_n X 1 dX8_signAt_4 rfl rfl ?_
    refine z_aload_n X 0 dX8_signAt_5 rfl rfl ?_
    refine z_get (q0 := 0) (k := 0) (ci := 8) X IR_P iw_X8 rfl qf_X8_X8_signs (by decide) dX8_signAt_6 rfl rfl ?_
    refine z_alen (q0 := 1) (v := (20 : Int32)) X IR_P 1 dX8_signAt_9 rfl rfl rfl ?_
    refine z_icmp_ge X 22 dX8_signAt_10 (by decide) h (fun _ h => ?_) (fun _ h => ?_)
    · refine z_bipush X (32 : Int32) dX8_signAt_22 (by decide) ?_
      obtain ⟨e2, h⟩ := grd_p h
      exact z_zretR X hQ hr dX8_signAt_24 (nar_char e2) h
    · refine z_aload_n X 0 dX8_signAt_13 rfl rfl ?_
      refine z_get (q0 := 0) (k := 0) (ci := 8) X IR_P iw_X8 rfl qf_X8_X8_signs (by decide) dX8_signAt_14 rfl rfl ?_
      refine z_iload_n X 1 dX8_signAt_17 rfl rfl ?_
      refine z_cald (q0 := 1) X IR_P dX8_signAt_18 rfl h (fun h => ?_)
      refine z_goto X 24 dX8_signAt_19 (by decide) ?_
      obtain ⟨e3, h⟩ := grd_p h
      exact z_zretR X hQ hr dX8_signAt_24 (nar_char e3) h

def F_X3_isFull (f_size : Int32) : Option (Int32) :=
  brn (f_size < (60 : Int32)) (some ((0 : Int32))) (some ((1 : Int32)))
theorem dX3_isFull_0 : decode cX3_isFull 0 = .ok (.aload_n 0, 1) := by decide +kernel
theorem dX3_isFull_1 : decode cX3_isFull 1 = .ok (.getfield 22, 3) := by decide +kernel
theorem dX3_isFull_4 : decode cX3_isFull 4 = .ok (.bipush 60, 2) := by decide +kernel
theorem dX3_isFull_6 : decode cX3_isFull 6 = .ok (.if_icmp .lt 7, 3) := by decide +kernel
theorem dX3_isFull_9 : decode cX3_isFull 9 = .ok (.iconst 1, 1) := by decide +kernel
theorem dX3_isFull_10 : decode cX3_isFull 10 = .ok (.goto 4, 3) := by decide +kernel
theorem dX3_isFull_13 : decode cX3_isFull 13 = .ok (.iconst 0, 1) := by decide +kernel
theorem dX3_isFull_14 : decode cX3_isFull 14 = .ok (.ireturn, 1) := by decide +kernel
theorem k_X3_isFull : cardV yX3_isFull (Cond.code yX3_isFull cX3_isFull 1 (some .boolean)) 0 := ⟨⟨qi_X3_isFull, qv_X3_isFull⟩, qc_X3_isFull, qn_X3, by decide +kernel, by decide +kernel, by decide +kernel⟩
set_option maxHeartbeats 4000000 in
set_option maxRecDepth 100000 in
theorem c_X3_isFull (l : Launch) (D : va_G) (g : Nat → ClassId) (q_this q_signs q_kinds q_numbers : Nat) (f_size : Int32) (f_count : Int32) (f_place : Int32) (f_errorPlace : Int32) (o : Int32) (h : F_X3_isFull f_size = some o) : MR l yX3_isFull (Cond.code yX3_isFull cX3_isFull 1 (some .boolean)) { frames := 0, cells := 0, slots := 0, locals := 0 } D g [.ref q_this] [(q_this, .inr (4, [.ref q_signs, .ref q_kinds, .ref q_numbers, .int f_size, .int f_count, .int f_place, .int f_errorPlace]))] (some (.int o)) := by
  refine z_rd_start (by decide) (Nat.le_of_ble_eq_true rfl) ?_
  intro p e s m args below meth c Q X hr hQ
  refine z_lv (lv' := [(0, .ref q_this)]) rfl ?_
  refine z_aload_n X 0 dX3_isFull_0 rfl rfl ?_
  refine z_get (q0 := 0) (k := 3) (ci := 4) X IR_P iw_X3 rfl qf_X3_X3_size (by decide) dX3_isFull_1 rfl rfl ?_
  refine z_bipush X (60 : Int32) dX3_isFull_4 (by decide) ?_
  refine z_icmp_lt X 13 dX3_isFull_6 (by decide) h (fun _ h => ?_) (fun _ h => ?_)
  · refine z_iconst X (0 : Int32) dX3_isFull_13 (by decide) ?_
    exact z_zretR X hQ hr dX3_isFull_14 rfl h
  · refine z_iconst X (1 : Int32) dX3_isFull_9 (by decide) ?_
    refine z_goto X 14 dX3_isFull_10 (by decide) ?_
    exact z_zretR X hQ hr dX3_isFull_14 rfl h

def J_X3_add_32 (p1 : Int32) (f_size : Int32) (a_signs : Nat → Int32) : Option (Int32 × Int32 × (Nat → Int32)) :=
  some (f_size, f_size, a_signs)

def F_X3_add (p1 : Int32) (f_size : Int32) (a_signs : Nat → Int32) : Option (Int32 × Int32 × (Nat → Int32)) :=
  brn ((60 : Int32) ≤ f_size) (J_X3_add_32 p1 f_size a_signs) (grd (inb f_size 60) (J_X3_add_32 p1 (f_size + (1 : Int32)) (upd a_signs f_size.toNatClampNeg (vp_nar .char p1))))
theorem dX3_add_0 : decode cX3_add 0 = .ok (.aload_n 0, 1) := by decide +kernel
theorem dX3_add_1 : decode cX3_add 1 = .ok (.getfield 22, 3) := by decide +kernel
theorem dX3_add_4 : decode cX3_add 4 = .ok (.aload_n 0, 1) := by decide +kernel
theorem dX3_add_5 : decode cX3_add 5 = .ok (.getfield 9, 3) := by decide +kernel
theorem dX3_add_8 : decode cX3_add 8 = .ok (.arraylength, 1) := by decide +kernel
theorem dX3_add_9 : decode cX3_add 9 = .ok (.if_icmp .ge 23, 3) := by decide +kernel
theorem dX3_add_12 : decode cX3_add 12 = .ok (.aload_n 0, 1) := by decide +kernel
theorem dX3_add_13 : decode cX3_add 13 = .ok (.getfield 9, 3) := by decide +kernel
theorem dX3_add_16 : decode cX3_add 16 = .ok (.aload_n 0, 1) := by decide +kernel
theorem dX3_add_17 : decode cX3_add 17 = .ok (.getfield 22, 3) := by decide +kernel
theorem dX3_add_20 : decode cX3_add 20 = .ok (.iload_n 1, 1) := by decide +kernel
theorem dX3_add_21 : decode cX3_add 21 = .ok (.castore, 1) := by decide +kernel
theorem dX3_add_22 : decode cX3_add 22 = .ok (.aload_n 0, 1) := by decide +kernel
theorem dX3_add_23 : decode cX3_add 23 = .ok (.dup, 1) := by decide +kernel
theorem dX3_add_24 : decode cX3_add 24 = .ok (.getfield 22, 3) := by decide +kernel
theorem dX3_add_27 : decode cX3_add 27 = .ok (.iconst 1, 1) := by decide +kernel
theorem dX3_add_28 : decode cX3_add 28 = .ok (.iadd, 1) := by decide +kernel
theorem dX3_add_29 : decode cX3_add 29 = .ok (.putfield 22, 3) := by decide +kernel
theorem dX3_add_32 : decode cX3_add 32 = .ok (.aload_n 0, 1) := by decide +kernel
theorem dX3_add_33 : decode cX3_add 33 = .ok (.getfield 22, 3) := by decide +kernel
theorem dX3_add_36 : decode cX3_add 36 = .ok (.ireturn, 1) := by decide +kernel
theorem k_X3_add : cardV yX3_add (Cond.code yX3_add cX3_add 2 (some .int)) 1 := ⟨⟨qi_X3_add, qv_X3_add⟩, qc_X3_add, qn_X3, by decide +kernel, by decide +kernel, by decide +kernel⟩
set_option maxHeartbeats 4000000 in
set_option maxRecDepth 100000 in
theorem c_X3_add (l : Launch) (D : va_G) (g : Nat → ClassId) (q_this q_signs q_kinds q_numbers : Nat) (p1 : Int32) (f_size : Int32) (f_count : Int32) (f_place : Int32) (f_errorPlace : Int32) (a_signs : Nat → Int32) (o : Int32 × Int32 × (Nat → Int32)) (h : F_X3_add p1 f_size a_signs = some o) : MW l yX3_add (Cond.code yX3_add cX3_add 2 (some .int)) { frames := 0, cells := 0, slots := 0, locals := 0 } D g [.ref q_this, .int p1] [(q_this, .inr (4, [.ref q_signs, .ref q_kinds, .ref q_numbers, .int f_size, .int f_count, .int f_place, .int f_errorPlace])), (q_signs, .inl (g 1, 60, .inl a_signs))] (some (.int o.1)) [(q_this, .inr (4, [.ref q_signs, .ref q_kinds, .ref q_numbers, .int o.2.1, .int f_count, .int f_place, .int f_errorPlace])), (q_signs, .inl (g 1, 60, .inl o.2.2))] := by
  refine z_wr_start (by decide) (Nat.le_of_ble_eq_true rfl) ?_
  intro p e s m args below meth c Q A X hr hQ hA
  refine z_lv (lv' := [(0, .ref q_this), (1, .int p1)]) rfl ?_
  have H32 : ∀ (f_size : Int32) (a_signs : Nat → Int32), J_X3_add_32 p1 f_size a_signs = some o → Z p l e { frames := 0, cells := 0, slots := 0, locals := 0 } s m args below meth c Q 2 0 0 (IW D A s [(q_this, .inr (4, [.ref q_signs, .ref q_kinds, .ref q_numbers, .int f_size, .int f_count, .int f_place, .int f_errorPlace])), (q_signs, .inl (g 1, 60, .inl a_signs))]) 32 [(0, .ref q_this)] [] := by
    intro f_size a_signs h
    refine z_aload_n X 0 dX3_add_32 rfl rfl ?_
    refine z_get (q0 := 0) (k := 3) (ci := 4) X IW_P iw_X3 rfl qf_X3_X3_size (by decide) dX3_add_33 rfl rfl ?_
    cases h
    exact z_iretW X hQ hA hr dX3_add_36
  refine z_aload_n X 0 dX3_add_0 rfl rfl ?_
  refine z_get (q0 := 0) (k := 3) (ci := 4) X IW_P iw_X3 rfl qf_X3_X3_size (by decide) dX3_add_1 rfl rfl ?_
  refine z_aload_n X 0 dX3_add_4 rfl rfl ?_
  refine z_get (q0 := 0) (k := 0) (ci := 4) X IW_P iw_X3 rfl qf_X3_X3_signs (by decide) dX3_add_5 rfl rfl ?_
  refine z_alen (q0 := 1) (v := (60 : Int32)) X IW_P 1 dX3_add_8 rfl rfl rfl ?_
  refine z_icmp_ge X 32 dX3_add_9 (by decide) h (fun _ h => ?_) (fun _ h => ?_)
  · refine z_sub (lv' := [(0, .ref q_this)]) [0] rfl ?_
    exact H32 f_size a_signs h
  · refine z_aload_n X 0 dX3_add_12 rfl rfl ?_
    refine z_get (q0 := 0) (k := 0) (ci := 4) X IW_P iw_X3 rfl qf_X3_X3_signs (by decide) dX3_add_13 rfl rfl ?_
    refine z_aload_n X 0 dX3_add_16 rfl rfl ?_
    refine z_get (q0 := 0) (k := 3) (ci := 4) X IW_P iw_X3 rfl qf_X3_X3_size (by decide) dX3_add_17 rfl rfl ?_
    refine z_iload_n X 1 dX3_add_20 rfl rfl ?_
    refine z_cast (q0 := 1) (ws' := [(q_this, .inr (4, [.ref q_signs, .ref q_kinds, .ref q_numbers, .int f_size, .int f_count, .int f_place, .int f_errorPlace])), (q_signs, .inl (g 1, 60, .inl (upd a_signs f_size.toNatClampNeg (vp_nar .char p1))))]) X dX3_add_21 rfl h rfl (fun h => ?_)
    refine z_aload_n X 0 dX3_add_22 rfl rfl ?_
    refine z_dup X dX3_add_23 rfl ?_
    refine z_get (q0 := 0) (k := 3) (ci := 4) X IW_P iw_X3 rfl qf_X3_X3_size (by decide) dX3_add_24 rfl rfl ?_
    refine z_iconst X (1 : Int32) dX3_add_27 (by decide) ?_
    refine z_iadd X dX3_add_28 ?_
    refine z_put (q0 := 0) (k := 3) (ci := 4) (ws' := [(q_this, .inr (4, [.ref q_signs, .ref q_kinds, .ref q_numbers, .int (f_size + (1 : Int32)), .int f_count, .int f_place, .int f_errorPlace])), (q_signs, .inl (g 1, 60, .inl (upd a_signs f_size.toNatClampNeg (vp_nar .char p1))))]) X iw_X3 tyX3_ok nmX3 rfl qf_X3_X3_size (by decide) rfl rfl dX3_add_29 rfl rfl rfl (Nat.le_of_ble_eq_true rfl) rfl ?_
    refine z_sub (lv' := [(0, .ref q_this)]) [0] rfl ?_
    exact H32 (f_size + (1 : Int32)) (upd a_signs f_size.toNatClampNeg (vp_nar .char p1)) h

def F_X3_signHere (f_size : Int32) (f_place : Int32) (a_signs : Nat → Int32) : Option (Int32) :=
  brn (f_place < 0) (some (((-1) : Int32))) (brn (f_size ≤ f_place) (some (((-1) : Int32))) (brn ((60 : Int32) ≤ f_place) (some (((-1) : Int32))) (grd (inb f_place 60) (some (a_signs f_place.toNatClampNeg)))))
theorem dX3_signHere_0 : decode cX3_signHere 0 = .ok (.aload_n 0, 1) := by decide +kernel
theorem dX3_signHere_1 : decode cX3_signHere 1 = .ok (.getfield 29, 3) := by decide +kernel
theorem dX3_signHere_4 : decode cX3_signHere 4 = .ok (.ifCond .lt 38, 3) := by decide +kernel
theorem dX3_signHere_7 : decode cX3_signHere 7 = .ok (.aload_n 0, 1) := by decide +kernel
theorem dX3_signHere_8 : decode cX3_signHere 8 = .ok (.getfield 29, 3) := by decide +kernel
theorem dX3_signHere_11 : decode cX3_signHere 11 = .ok (.aload_n 0, 1) := by decide +kernel
theorem dX3_signHere_12 : decode cX3_signHere 12 = .ok (.getfield 22, 3) := by decide +kernel
theorem dX3_signHere_15 : decode cX3_signHere 15 = .ok (.if_icmp .ge 27, 3) := by decide +kernel
theorem dX3_signHere_18 : decode cX3_signHere 18 = .ok (.aload_n 0, 1) := by decide +kernel
theorem dX3_signHere_19 : decode cX3_signHere 19 = .ok (.getfield 29, 3) := by decide +kernel
theorem dX3_signHere_22 : decode cX3_signHere 22 = .ok (.aload_n 0, 1) := by decide +kernel
theorem dX3_signHere_23 : decode cX3_signHere 23 = .ok (.getfield 9, 3) := by decide +kernel
theorem dX3_signHere_26 : decode cX3_signHere 26 = .ok (.arraylength, 1) := by decide +kernel
theorem dX3_signHere_27 : decode cX3_signHere 27 = .ok (.if_icmp .ge 15, 3) := by decide +kernel
theorem dX3_signHere_30 : decode cX3_signHere 30 = .ok (.aload_n 0, 1) := by decide +kernel
theorem dX3_signHere_31 : decode cX3_signHere 31 = .ok (.getfield 9, 3) := by decide +kernel
theorem dX3_signHere_34 : decode cX3_signHere 34 = .ok (.aload_n 0, 1) := by decide +kernel
theorem dX3_signHere_35 : decode cX3_signHere 35 = .ok (.getfield 29, 3) := by decide +kernel
theorem dX3_signHere_38 : decode cX3_signHere 38 = .ok (.caload, 1) := by decide +kernel
theorem dX3_signHere_39 : decode cX3_signHere 39 = .ok (.goto 4, 3) := by decide +kernel
theorem dX3_signHere_42 : decode cX3_signHere 42 = .ok (.iconst (-1), 1) := by decide +kernel
theorem dX3_signHere_43 : decode cX3_signHere 43 = .ok (.ireturn, 1) := by decide +kernel
theorem k_X3_signHere : cardV yX3_signHere (Cond.code yX3_signHere cX3_signHere 1 (some .int)) 0 := ⟨⟨qi_X3_signHere, qv_X3_signHere⟩, qc_X3_signHere, qn_X3, by decide +kernel, by decide +kernel, by decide +kernel⟩
set_option maxHeartbeats 4000000 in
set_option maxRecDepth 100000 in
theorem c_X3_signHere (l : Launch) (D : va_G) (g : Nat → ClassId) (q_this q_signs q_kinds q_numbers : Nat) (f_size : Int32) (f_count : Int32) (f_place : Int32) (f_errorPlace : Int32) (a_signs : Nat → Int32) (o : Int32) (h : F_X3_signHere f_size f_place a_signs = some o) : MR l yX3_signHere (Cond.code yX3_signHere cX3_signHere 1 (some .int)) { frames := 0, cells := 0, slots := 0, locals := 0 } D g [.ref q_this] [(q_this, .inr (4, [.ref q_signs, .ref q_kinds, .ref q_numbers, .int f_size, .int f_count, .int f_place, .int f_errorPlace])), (q_signs, .inl (g 1, 60, .inl a_signs))] (some (.int o)) := by
  refine z_rd_start (by decide) (Nat.le_of_ble_eq_true rfl) ?_
  intro p e s m args below meth c Q X hr hQ
  refine z_lv (lv' := [(0, .ref q_this)]) rfl ?_
  refine z_aload_n X 0 dX3_signHere_0 rfl rfl ?_
  refine z_get (q0 := 0) (k := 5) (ci := 4) X IR_P iw_X3 rfl qf_X3_X3_place (by decide) dX3_signHere_1 rfl rfl ?_
  refine z_if_lt X 42 dX3_signHere_4 (by decide) h (fun _ h => ?_) (fun _ h => ?_)
  · refine z_iconst X ((-1) : Int32) dX3_signHere_42 (by decide) ?_
    exact z_iretR X hQ hr dX3_signHere_43 h
  · refine z_aload_n X 0 dX3_signHere_7 rfl rfl ?_
    refine z_get (q0 := 0) (k := 5) (ci := 4) X IR_P iw_X3 rfl qf_X3_X3_place (by decide) dX3_signHere_8 rfl rfl ?_
    refine z_aload_n X 0 dX3_signHere_11 rfl rfl ?_
    refine z_get (q0 := 0) (k := 3) (ci := 4) X IR_P iw_X3 rfl qf_X3_X3_size (by decide) dX3_signHere_12 rfl rfl ?_
    refine z_icmp_ge X 42 dX3_signHere_15 (by decide) h (fun _ h => ?_) (fun _ h => ?_)
    · refine z_iconst X ((-1) : Int32) dX3_signHere_42 (by decide) ?_
      exact z_iretR X hQ hr dX3_signHere_43 h
    · refine z_aload_n X 0 dX3_signHere_18 rfl rfl ?_
      refine z_get (q0 := 0) (k := 5) (ci := 4) X IR_P iw_X3 rfl qf_X3_X3_place (by decide) dX3_signHere_19 rfl rfl ?_
      refine z_aload_n X 0 dX3_signHere_22 rfl rfl ?_
      refine z_get (q0 := 0) (k := 0) (ci := 4) X IR_P iw_X3 rfl qf_X3_X3_signs (by decide) dX3_signHere_23 rfl rfl ?_
      refine z_alen (q0 := 1) (v := (60 : Int32)) X IR_P 1 dX3_signHere_26 rfl rfl rfl ?_
      refine z_icmp_ge X 42 dX3_signHere_27 (by decide) h (fun _ h => ?_) (fun _ h => ?_)
      · refine z_iconst X ((-1) : Int32) dX3_signHere_42 (by decide) ?_
        exact z_iretR X hQ hr dX3_signHere_43 h
      · refine z_aload_n X 0 dX3_signHere_30 rfl rfl ?_
        refine z_get (q0 := 0) (k := 0) (ci := 4) X IR_P iw_X3 rfl qf_X3_X3_signs (by decide) dX3_signHere_31 rfl rfl ?_
        refine z_aload_n X 0 dX3_signHere_34 rfl rfl ?_
        refine z_get (q0 := 0) (k := 5) (ci := 4) X IR_P iw_X3 rfl qf_X3_X3_place (by decide) dX3_signHere_35 rfl rfl ?_
        refine z_cald (q0 := 1) X IR_P dX3_signHere_38 rfl h (fun h => ?_)
        refine z_goto X 43 dX3_signHere_39 (by decide) ?_
        exact z_iretR X hQ hr dX3_signHere_43 h

def F_X3_readSign (p1 : Int32) (f_size : Int32) (a_signs : Nat → Int32) (f_place : Int32) : Option (Int32 × Int32) :=
  bnd (F_X3_signHere f_size f_place a_signs) (fun o1 => brn (o1 = p1) (some ((1 : Int32), (f_place + (1 : Int32)))) (some ((0 : Int32), f_place)))
theorem dX3_readSign_0 : decode cX3_readSign 0 = .ok (.aload_n 0, 1) := by decide +kernel
theorem dX3_readSign_1 : decode cX3_readSign 1 = .ok (.invokevirtual 49, 3) := by decide +kernel
theorem dX3_readSign_4 : decode cX3_readSign 4 = .ok (.iload_n 1, 1) := by decide +kernel
theorem dX3_readSign_5 : decode cX3_readSign 5 = .ok (.if_icmp .eq 5, 3) := by decide +kernel
theorem dX3_readSign_8 : decode cX3_readSign 8 = .ok (.iconst 0, 1) := by decide +kernel
theorem dX3_readSign_9 : decode cX3_readSign 9 = .ok (.ireturn, 1) := by decide +kernel
theorem dX3_readSign_10 : decode cX3_readSign 10 = .ok (.aload_n 0, 1) := by decide +kernel
theorem dX3_readSign_11 : decode cX3_readSign 11 = .ok (.dup, 1) := by decide +kernel
theorem dX3_readSign_12 : decode cX3_readSign 12 = .ok (.getfield 29, 3) := by decide +kernel
theorem dX3_readSign_15 : decode cX3_readSign 15 = .ok (.iconst 1, 1) := by decide +kernel
theorem dX3_readSign_16 : decode cX3_readSign 16 = .ok (.iadd, 1) := by decide +kernel
theorem dX3_readSign_17 : decode cX3_readSign 17 = .ok (.putfield 29, 3) := by decide +kernel
theorem dX3_readSign_20 : decode cX3_readSign 20 = .ok (.iconst 1, 1) := by decide +kernel
theorem dX3_readSign_21 : decode cX3_readSign 21 = .ok (.ireturn, 1) := by decide +kernel
theorem k_X3_readSign : cardV yX3_readSign (Cond.code yX3_readSign cX3_readSign 2 (some .boolean)) 1 := ⟨⟨qi_X3_readSign, qv_X3_readSign⟩, qc_X3_readSign, qn_X3, by decide +kernel, by decide +kernel, by decide +kernel⟩
set_option maxHeartbeats 4000000 in
set_option maxRecDepth 100000 in
theorem c_X3_readSign (l : Launch) (D : va_G) (g : Nat → ClassId) (q_this q_signs q_kinds q_numbers : Nat) (p1 : Int32) (f_size : Int32) (f_count : Int32) (f_place : Int32) (f_errorPlace : Int32) (a_signs : Nat → Int32) (o : Int32 × Int32) (h : F_X3_readSign p1 f_size a_signs f_place = some o) : MW l yX3_readSign (Cond.code yX3_readSign cX3_readSign 2 (some .boolean)) { frames := 1, cells := 0, slots := 0, locals := 20 } D g [.ref q_this, .int p1] [(q_this, .inr (4, [.ref q_signs, .ref q_kinds, .ref q_numbers, .int f_size, .int f_count, .int f_place, .int f_errorPlace])), (q_signs, .inl (g 1, 60, .inl a_signs))] (some (.int o.1)) [(q_this, .inr (4, [.ref q_signs, .ref q_kinds, .ref q_numbers, .int f_size, .int f_count, .int o.2, .int f_errorPlace])), (q_signs, .inl (g 1, 60, .inl a_signs))] := by
  refine z_wr_start (by decide) (Nat.le_of_ble_eq_true rfl) ?_
  intro p e s m args below meth c Q A X hr hQ hA
  refine z_lv (lv' := [(0, .ref q_this), (1, .int p1)]) rfl ?_
  refine z_aload_n X 0 dX3_readSign_0 rfl rfl ?_
  obtain ⟨o1, e2, h⟩ := bnd_p h
  refine z_rdV (rest := []) (q0 := 0) (ci := 4) X IW_P k_X3_signHere (c_X3_signHere l D g q_this q_signs q_kinds q_numbers f_size f_count f_place f_errorPlace a_signs o1 e2) ql_X3_X3_signHere dX3_readSign_1 [0, 1] rfl rfl rfl rfl rfl rfl ⟨Nat.le_of_ble_eq_true rfl, Nat.le_of_ble_eq_true rfl, rfl, rfl, Nat.le_of_ble_eq_true rfl, Nat.le_of_ble_eq_true rfl⟩ (Nat.le_of_ble_eq_true rfl) ?_
  refine z_iload_n X 1 dX3_readSign_4 rfl rfl ?_
  refine z_icmp_eq X 10 dX3_readSign_5 (by decide) h (fun _ h => ?_) (fun _ h => ?_)
  · refine z_aload_n X 0 dX3_readSign_10 rfl rfl ?_
    refine z_dup X dX3_readSign_11 rfl ?_
    refine z_get (q0 := 0) (k := 5) (ci := 4) X IW_P iw_X3 rfl qf_X3_X3_place (by decide) dX3_readSign_12 rfl rfl ?_
    refine z_iconst X (1 : Int32) dX3_readSign_15 (by decide) ?_
    refine z_iadd X dX3_readSign_16 ?_
    refine z_put (q0 := 0) (k := 5) (ci := 4) (ws' := [(q_this, .inr (4, [.ref q_signs, .ref q_kinds, .ref q_numbers, .int f_size, .int f_count, .int (f_place + (1 : Int32)), .int f_errorPlace])), (q_signs, .inl (g 1, 60, .inl a_signs))]) X iw_X3 tyX3_ok nmX3 rfl qf_X3_X3_place (by decide) rfl rfl dX3_readSign_17 rfl rfl rfl (Nat.le_of_ble_eq_true rfl) rfl ?_
    refine z_iconst X (1 : Int32) dX3_readSign_20 (by decide) ?_
    cases h
    exact z_zretW X hQ hA hr dX3_readSign_21 rfl
  · refine z_iconst X (0 : Int32) dX3_readSign_8 (by decide) ?_
    cases h
    exact z_zretW X hQ hA hr dX3_readSign_9 rfl

def F_X3_digitHere (f_size : Int32) (f_place : Int32) (a_signs : Nat → Int32) : Option (Int32) :=
  bnd (F_X3_signHere f_size f_place a_signs) (fun o1 => bnd (F_X11_isWithin o1 (48 : Int32) (57 : Int32)) (fun o3 => brn (o3 = 0) (some (((-1) : Int32))) (some (o1 - (48 : Int32)))))
theorem dX3_digitHere_0 : decode cX3_digitHere 0 = .ok (.aload_n 0, 1) := by decide +kernel
theorem dX3_digitHere_1 : decode cX3_digitHere 1 = .ok (.invokevirtual 49, 3) := by decide +kernel
theorem dX3_digitHere_4 : decode cX3_digitHere 4 = .ok (.istore_n 1, 1) := by decide +kernel
theorem dX3_digitHere_5 : decode cX3_digitHere 5 = .ok (.iload_n 1, 1) := by decide +kernel
theorem dX3_digitHere_6 : decode cX3_digitHere 6 = .ok (.bipush 48, 2) := by decide +kernel
theorem dX3_digitHere_8 : decode cX3_digitHere 8 = .ok (.bipush 57, 2) := by decide +kernel
theorem dX3_digitHere_10 : decode cX3_digitHere 10 = .ok (.invokestatic 98, 3) := by decide +kernel
theorem dX3_digitHere_13 : decode cX3_digitHere 13 = .ok (.ifCond .eq 10, 3) := by decide +kernel
theorem dX3_digitHere_16 : decode cX3_digitHere 16 = .ok (.iload_n 1, 1) := by decide +kernel
theorem dX3_digitHere_17 : decode cX3_digitHere 17 = .ok (.bipush 48, 2) := by decide +kernel
theorem dX3_digitHere_19 : decode cX3_digitHere 19 = .ok (.isub, 1) := by decide +kernel
theorem dX3_digitHere_20 : decode cX3_digitHere 20 = .ok (.goto 4, 3) := by decide +kernel
theorem dX3_digitHere_23 : decode cX3_digitHere 23 = .ok (.iconst (-1), 1) := by decide +kernel
theorem dX3_digitHere_24 : decode cX3_digitHere 24 = .ok (.ireturn, 1) := by decide +kernel
theorem k_X3_digitHere : cardV yX3_digitHere (Cond.code yX3_digitHere cX3_digitHere 2 (some .int)) 0 := ⟨⟨qi_X3_digitHere, qv_X3_digitHere⟩, qc_X3_digitHere, qn_X3, by decide +kernel, by decide +kernel, by decide +kernel⟩
set_option maxHeartbeats 4000000 in
set_option maxRecDepth 100000 in
theorem c_X3_digitHere (l : Launch) (D : va_G) (g : Nat → ClassId) (q_this q_signs q_kinds q_numbers : Nat) (f_size : Int32) (f_count : Int32) (f_place : Int32) (f_errorPlace : Int32) (a_signs : Nat → Int32) (o : Int32) (h : F_X3_digitHere f_size f_place a_signs = some o) : MR l yX3_digitHere (Cond.code yX3_digitHere cX3_digitHere 2 (some .int)) { frames := 1, cells := 0, slots := 0, locals := 22 } D g [.ref q_this] [(q_this, .inr (4, [.ref q_signs, .ref q_kinds, .ref q_numbers, .int f_size, .int f_count, .int f_place, .int f_errorPlace])), (q_signs, .inl (g 1, 60, .inl a_signs))] (some (.int o)) := by
  refine z_rd_start (by decide) (Nat.le_of_ble_eq_true rfl) ?_
  intro p e s m args below meth c Q X hr hQ
  refine z_lv (lv' := [(0, .ref q_this)]) rfl ?_
  refine z_aload_n X 0 dX3_digitHere_0 rfl rfl ?_
  obtain ⟨o1, e2, h⟩ := bnd_p h
  refine z_rdV (rest := []) (q0 := 0) (ci := 4) X IR_P k_X3_signHere (c_X3_signHere l D g q_this q_signs q_kinds q_numbers f_size f_count f_place f_errorPlace a_signs o1 e2) ql_X3_X3_signHere dX3_digitHere_1 [0, 1] rfl rfl rfl rfl rfl rfl ⟨Nat.le_of_ble_eq_true rfl, Nat.le_of_ble_eq_true rfl, rfl, rfl, Nat.le_of_ble_eq_true rfl, Nat.le_of_ble_eq_true rfl⟩ (Nat.le_of_ble_eq_true rfl) ?_
  refine z_istore_n X [(1, .int o1), (0, .ref q_this)] dX3_digitHere_4 rfl (by decide) rfl ?_
  refine z_iload_n X 0 dX3_digitHere_5 rfl rfl ?_
  refine z_bipush X (48 : Int32) dX3_digitHere_6 (by decide) ?_
  refine z_bipush X (57 : Int32) dX3_digitHere_8 (by decide) ?_
  obtain ⟨o3, e4, h⟩ := bnd_p h
  refine z_rdSN (rest := []) X IR_P k_X11_isWithin (c_X11_isWithin l D g o1 (48 : Int32) (57 : Int32) o3 e4) qlN_X3_X11_isWithin dX3_digitHere_10 [] rfl rfl rfl ⟨Nat.le_of_ble_eq_true rfl, Nat.le_of_ble_eq_true rfl, rfl, rfl, Nat.le_of_ble_eq_true rfl, Nat.le_of_ble_eq_true rfl⟩ (Nat.le_of_ble_eq_true rfl) ?_
  refine z_if_eq X 23 dX3_digitHere_13 (by decide) h (fun _ h => ?_) (fun _ h => ?_)
  · refine z_iconst X ((-1) : Int32) dX3_digitHere_23 (by decide) ?_
    exact z_iretR X hQ hr dX3_digitHere_24 h
  · refine z_iload_n X 0 dX3_digitHere_16 rfl rfl ?_
    refine z_bipush X (48 : Int32) dX3_digitHere_17 (by decide) ?_
    refine z_isub X dX3_digitHere_19 ?_
    refine z_goto X 24 dX3_digitHere_20 (by decide) ?_
    exact z_iretR X hQ hr dX3_digitHere_24 h

def J_X3_readNumber_34 (p1 : Int32) (f_size : Int32) (a_signs : Nat → Int32) (t0 : Int32) (x2 : Int32) (f_place : Int32) : Option (Int32 × Int32) :=
  brn (t0 = ((-1) : Int32)) (some (x2, f_place)) (some (((10 : Int32) * x2) + t0, (f_place + (1 : Int32))))

def F_X3_readNumber (p1 : Int32) (f_size : Int32) (a_signs : Nat → Int32) (f_place : Int32) : Option (Int32 × Int32) :=
  bnd (F_X3_digitHere f_size f_place a_signs) (fun o1 => brn (o1 = ((-1) : Int32)) (some (((-1) : Int32), f_place)) (brn (p1 = 0) (J_X3_readNumber_34 p1 f_size a_signs ((-1) : Int32) o1 (f_place + (1 : Int32))) (bnd (F_X3_digitHere f_size (f_place + (1 : Int32)) a_signs) (fun o3 => J_X3_readNumber_34 p1 f_size a_signs o3 o1 (f_place + (1 : Int32))))))
theorem dX3_readNumber_0 : decode cX3_readNumber 0 = .ok (.aload_n 0, 1) := by decide +kernel
theorem dX3_readNumber_1 : decode cX3_readNumber 1 = .ok (.invokevirtual 95, 3) := by decide +kernel
theorem dX3_readNumber_4 : decode cX3_readNumber 4 = .ok (.istore_n 2, 1) := by decide +kernel
theorem dX3_readNumber_5 : decode cX3_readNumber 5 = .ok (.iload_n 2, 1) := by decide +kernel
theorem dX3_readNumber_6 : decode cX3_readNumber 6 = .ok (.iconst (-1), 1) := by decide +kernel
theorem dX3_readNumber_7 : decode cX3_readNumber 7 = .ok (.if_icmp .ne 5, 3) := by decide +kernel
theorem dX3_readNumber_10 : decode cX3_readNumber 10 = .ok (.iconst (-1), 1) := by decide +kernel
theorem dX3_readNumber_11 : decode cX3_readNumber 11 = .ok (.ireturn, 1) := by decide +kernel
theorem dX3_readNumber_12 : decode cX3_readNumber 12 = .ok (.aload_n 0, 1) := by decide +kernel
theorem dX3_readNumber_13 : decode cX3_readNumber 13 = .ok (.dup, 1) := by decide +kernel
theorem dX3_readNumber_14 : decode cX3_readNumber 14 = .ok (.getfield 29, 3) := by decide +kernel
theorem dX3_readNumber_17 : decode cX3_readNumber 17 = .ok (.iconst 1, 1) := by decide +kernel
theorem dX3_readNumber_18 : decode cX3_readNumber 18 = .ok (.iadd, 1) := by decide +kernel
theorem dX3_readNumber_19 : decode cX3_readNumber 19 = .ok (.putfield 29, 3) := by decide +kernel
theorem dX3_readNumber_22 : decode cX3_readNumber 22 = .ok (.iload_n 1, 1) := by decide +kernel
theorem dX3_readNumber_23 : decode cX3_readNumber 23 = .ok (.ifCond .eq 10, 3) := by decide +kernel
theorem dX3_readNumber_26 : decode cX3_readNumber 26 = .ok (.aload_n 0, 1) := by decide +kernel
theorem dX3_readNumber_27 : decode cX3_readNumber 27 = .ok (.invokevirtual 95, 3) := by decide +kernel
theorem dX3_readNumber_30 : decode cX3_readNumber 30 = .ok (.goto 4, 3) := by decide +kernel
theorem dX3_readNumber_33 : decode cX3_readNumber 33 = .ok (.iconst (-1), 1) := by decide +kernel
theorem dX3_readNumber_34 : decode cX3_readNumber 34 = .ok (.istore_n 3, 1) := by decide +kernel
theorem dX3_readNumber_35 : decode cX3_readNumber 35 = .ok (.iload_n 3, 1) := by decide +kernel
theorem dX3_readNumber_36 : decode cX3_readNumber 36 = .ok (.iconst (-1), 1) := by decide +kernel
theorem dX3_readNumber_37 : decode cX3_readNumber 37 = .ok (.if_icmp .ne 5, 3) := by decide +kernel
theorem dX3_readNumber_40 : decode cX3_readNumber 40 = .ok (.iload_n 2, 1) := by decide +kernel
theorem dX3_readNumber_41 : decode cX3_readNumber 41 = .ok (.ireturn, 1) := by decide +kernel
theorem dX3_readNumber_42 : decode cX3_readNumber 42 = .ok (.aload_n 0, 1) := by decide +kernel
theorem dX3_readNumber_43 : decode cX3_readNumber 43 = .ok (.dup, 1) := by decide +kernel
theorem dX3_readNumber_44 : decode cX3_readNumber 44 = .ok (.getfield 29, 3) := by decide +kernel
theorem dX3_readNumber_47 : decode cX3_readNumber 47 = .ok (.iconst 1, 1) := by decide +kernel
theorem dX3_readNumber_48 : decode cX3_readNumber 48 = .ok (.iadd, 1) := by decide +kernel
theorem dX3_readNumber_49 : decode cX3_readNumber 49 = .ok (.putfield 29, 3) := by decide +kernel
theorem dX3_readNumber_52 : decode cX3_readNumber 52 = .ok (.bipush 10, 2) := by decide +kernel
theorem dX3_readNumber_54 : decode cX3_readNumber 54 = .ok (.iload_n 2, 1) := by decide +kernel
theorem dX3_readNumber_55 : decode cX3_readNumber 55 = .ok (.imul, 1) := by decide +kernel
theorem dX3_readNumber_56 : decode cX3_readNumber 56 = .ok (.iload_n 3, 1) := by decide +kernel
theorem dX3_readNumber_57 : decode cX3_readNumber 57 = .ok (.iadd, 1) := by decide +kernel
theorem dX3_readNumber_58 : decode cX3_readNumber 58 = .ok (.ireturn, 1) := by decide +kernel
theorem k_X3_readNumber : cardV yX3_readNumber (Cond.code yX3_readNumber cX3_readNumber 4 (some .int)) 1 := ⟨⟨qi_X3_readNumber, qv_X3_readNumber⟩, qc_X3_readNumber, qn_X3, by decide +kernel, by decide +kernel, by decide +kernel⟩
set_option maxHeartbeats 4000000 in
set_option maxRecDepth 100000 in
theorem c_X3_readNumber (l : Launch) (D : va_G) (g : Nat → ClassId) (q_this q_signs q_kinds q_numbers : Nat) (p1 : Int32) (f_size : Int32) (f_count : Int32) (f_place : Int32) (f_errorPlace : Int32) (a_signs : Nat → Int32) (o : Int32 × Int32) (h : F_X3_readNumber p1 f_size a_signs f_place = some o) : MW l yX3_readNumber (Cond.code yX3_readNumber cX3_readNumber 4 (some .int)) { frames := 2, cells := 0, slots := 0, locals := 43 } D g [.ref q_this, .int p1] [(q_this, .inr (4, [.ref q_signs, .ref q_kinds, .ref q_numbers, .int f_size, .int f_count, .int f_place, .int f_errorPlace])), (q_signs, .inl (g 1, 60, .inl a_signs))] (some (.int o.1)) [(q_this, .inr (4, [.ref q_signs, .ref q_kinds, .ref q_numbers, .int f_size, .int f_count, .int o.2, .int f_errorPlace])), (q_signs, .inl (g 1, 60, .inl a_signs))] := by
  refine z_wr_start (by decide) (Nat.le_of_ble_eq_true rfl) ?_
  intro p e s m args below meth c Q A X hr hQ hA
  refine z_lv (lv' := [(0, .ref q_this), (1, .int p1)]) rfl ?_
  have H34 : ∀ (t0 : Int32) (x2 : Int32) (f_place : Int32), J_X3_readNumber_34 p1 f_size a_signs t0 x2 f_place = some o → Z p l e { frames := 2, cells := 0, slots := 0, locals := 43 } s m args below meth c Q 4 0 0 (IW D A s [(q_this, .inr (4, [.ref q_signs, .ref q_kinds, .ref q_numbers, .int f_size, .int f_count, .int f_place, .int f_errorPlace])), (q_signs, .inl (g 1, 60, .inl a_signs))]) 34 [(0, .ref q_this), (2, .int x2)] [.int t0] := by
    intro t0 x2 f_place h
    refine z_istore_n X [(3, .int t0), (0, .ref q_this), (2, .int x2)] dX3_readNumber_34 rfl (by decide) rfl ?_
    refine z_iload_n X 0 dX3_readNumber_35 rfl rfl ?_
    refine z_iconst X ((-1) : Int32) dX3_readNumber_36 (by decide) ?_
    refine z_icmp_ne X 42 dX3_readNumber_37 (by decide) h (fun _ h => ?_) (fun _ h => ?_)
    · refine z_iload_n X 2 dX3_readNumber_40 rfl rfl ?_
      cases h
      exact z_iretW X hQ hA hr dX3_readNumber_41
    · refine z_aload_n X 1 dX3_readNumber_42 rfl rfl ?_
      refine z_dup X dX3_readNumber_43 rfl ?_
      refine z_get (q0 := 0) (k := 5) (ci := 4) X IW_P iw_X3 rfl qf_X3_X3_place (by decide) dX3_readNumber_44 rfl rfl ?_
      refine z_iconst X (1 : Int32) dX3_readNumber_47 (by decide) ?_
      refine z_iadd X dX3_readNumber_48 ?_
      refine z_put (q0 := 0) (k := 5) (ci := 4) (ws' := [(q_this, .inr (4, [.ref q_signs, .ref q_kinds, .ref q_numbers, .int f_size, .int f_count, .int (f_place + (1 : Int32)), .int f_errorPlace])), (q_signs, .inl (g 1, 60, .inl a_signs))]) X iw_X3 tyX3_ok nmX3 rfl qf_X3_X3_place (by decide) rfl rfl dX3_readNumber_49 rfl rfl rfl (Nat.le_of_ble_eq_true rfl) rfl ?_
      refine z_bipush X (10 : Int32) dX3_readNumber_52 (by decide) ?_
      refine z_iload_n X 2 dX3_readNumber_54 rfl rfl ?_
      refine z_imul X dX3_readNumber_55 ?_
      refine z_iload_n X 0 dX3_readNumber_56 rfl rfl ?_
      refine z_iadd X dX3_readNumber_57 ?_
      cases h
      exact z_iretW X hQ hA hr dX3_readNumber_58
  refine z_aload_n X 0 dX3_readNumber_0 rfl rfl ?_
  obtain ⟨o1, e2, h⟩ := bnd_p h
  refine z_rdV (rest := []) (q0 := 0) (ci := 4) X IW_P k_X3_digitHere (c_X3_digitHere l D g q_this q_signs q_kinds q_numbers f_size f_count f_place f_errorPlace a_signs o1 e2) ql_X3_X3_digitHere dX3_readNumber_1 [0, 1] rfl rfl rfl rfl rfl rfl ⟨Nat.le_of_ble_eq_true rfl, Nat.le_of_ble_eq_true rfl, rfl, rfl, Nat.le_of_ble_eq_true rfl, Nat.le_of_ble_eq_true rfl⟩ (Nat.le_of_ble_eq_true rfl) ?_
  refine z_istore_n X [(2, .int o1), (0, .ref q_this), (1, .int p1)] dX3_readNumber_4 rfl (by decide) rfl ?_
  refine z_iload_n X 0 dX3_readNumber_5 rfl rfl ?_
  refine z_iconst X ((-1) : Int32) dX3_readNumber_6 (by decide) ?_
  refine z_icmp_ne X 12 dX3_readNumber_7 (by decide) h (fun _ h => ?_) (fun _ h => ?_)
  · refine z_iconst X ((-1) : Int32) dX3_readNumber_10 (by decide) ?_
    cases h
    exact z_iretW X hQ hA hr dX3_readNumber_11
  · refine z_aload_n X 1 dX3_readNumber_12 rfl rfl ?_
    refine z_dup X dX3_readNumber_13 rfl ?_
    refine z_get (q0 := 0) (k := 5) (ci := 4) X IW_P iw_X3 rfl qf_X3_X3_place (by decide) dX3_readNumber_14 rfl rfl ?_
    refine z_iconst X (1 : Int32) dX3_readNumber_17 (by decide) ?_
    refine z_iadd X dX3_readNumber_18 ?_
    refine z_put (q0 := 0) (k := 5) (ci := 4) (ws' := [(q_this, .inr (4, [.ref q_signs, .ref q_kinds, .ref q_numbers, .int f_size, .int f_count, .int (f_place + (1 : Int32)), .int f_errorPlace])), (q_signs, .inl (g 1, 60, .inl a_signs))]) X iw_X3 tyX3_ok nmX3 rfl qf_X3_X3_place (by decide) rfl rfl dX3_readNumber_19 rfl rfl rfl (Nat.le_of_ble_eq_true rfl) rfl ?_
    refine z_iload_n X 2 dX3_readNumber_22 rfl rfl ?_
    refine z_if_eq X 33 dX3_readNumber_23 (by decide) h (fun _ h => ?_) (fun _ h => ?_)
    · refine z_iconst X ((-1) : Int32) dX3_readNumber_33 (by decide) ?_
      refine z_sub (lv' := [(0, .ref q_this), (2, .int o1)]) [1, 0] rfl ?_
      exact H34 ((-1) : Int32) o1 (f_place + (1 : Int32)) h
    · refine z_aload_n X 1 dX3_readNumber_26 rfl rfl ?_
      obtain ⟨o3, e4, h⟩ := bnd_p h
      refine z_rdV (rest := []) (q0 := 0) (ci := 4) X IW_P k_X3_digitHere (c_X3_digitHere l D g q_this q_signs q_kinds q_numbers f_size f_count (f_place + (1 : Int32)) f_errorPlace a_signs o3 e4) ql_X3_X3_digitHere dX3_readNumber_27 [0, 1] rfl rfl rfl rfl rfl rfl ⟨Nat.le_of_ble_eq_true rfl, Nat.le_of_ble_eq_true rfl, rfl, rfl, Nat.le_of_ble_eq_true rfl, Nat.le_of_ble_eq_true rfl⟩ (Nat.le_of_ble_eq_true rfl) ?_
      refine z_goto X 34 dX3_readNumber_30 (by decide) ?_
      refine z_sub (lv' := [(0, .ref q_this), (2, .int o1)]) [1, 0] rfl ?_
      exact H34 o3 o1 (f_place + (1 : Int32)) h
