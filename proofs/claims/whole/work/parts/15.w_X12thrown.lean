def F_X12_thrown (f_thrown : Int32) : Option (Int32) :=
  some (f_thrown)
theorem dX12_thrown_0 : decode cX12_thrown 0 = .ok (.aload_n 0, 1) := by decide +kernel
theorem dX12_thrown_1 : decode cX12_thrown 1 = .ok (.getfield 42, 3) := by decide +kernel
theorem dX12_thrown_4 : decode cX12_thrown 4 = .ok (.ireturn, 1) := by decide +kernel
theorem k_X12_thrown : cardV yX12_thrown (Cond.code yX12_thrown cX12_thrown 1 (some .int)) 0 := ⟨⟨qi_X12_thrown, qv_X12_thrown⟩, qc_X12_thrown, qn_X12, by decide +kernel, by decide +kernel, by decide +kernel⟩
set_option maxHeartbeats 4000000 in
set_option maxRecDepth 100000 in
theorem c_X12_thrown (l : Launch) (D : va_G) (g : Nat → ClassId) (q_this q_s q_before q_saved q_past q_steps q_goes q_line q_text q_orders : Nat) (f_isSaved : Int32) (f_pastMany : Int32) (f_thrown : Int32) (f_reason : Int32) (f_detail : Int32) (f_isRefused : Int32) (f_goesMany : Int32) (f_roundSteps : Int32) (f_lineMany : Int32) (f_length : Int32) (f_at : Int32) (f_isWrong : Int32) (f_errorAt : Int32) (f_orderMany : Int32) (o : Int32) (h : F_X12_thrown f_thrown = some o) : MR l yX12_thrown (Cond.code yX12_thrown cX12_thrown 1 (some .int)) { frames := 0, cells := 0, slots := 0, locals := 0 } D g [.ref q_this] [(q_this, .inr (12, [.ref q_s, .ref q_before, .ref q_saved, .int f_isSaved, .ref q_past, .int f_pastMany, .int f_thrown, .int f_reason, .int f_detail, .int f_isRefused, .ref q_steps, .ref q_goes, .int f_goesMany, .int f_roundSteps, .ref q_line, .int f_lineMany, .ref q_text, .int f_length, .int f_at, .int f_isWrong, .int f_errorAt, .ref q_orders, .int f_orderMany]))] (some (.int o)) := by
  refine z_rd_start (by decide) (Nat.le_of_ble_eq_true rfl) ?_
  intro p e s m args below meth c Q X hr hQ
  refine z_lv (lv' := [(0, .ref q_this)]) rfl ?_
  refine z_aload_n X 0 dX12_thrown_0 rfl rfl ?_
  refine z_get (q0 := 0) (k := 6) (ci := 12) X IR_P iw_X12 rfl qf_X12_X12_thrown (by decide) dX12_thrown_1 rfl rfl ?_
  exact z_iretR X hQ hr dX12_thrown_4 h

def F_X12_in (p0 : Int32) (p1 : Int32) (p2 : Int32) : Option (Int32) :=
  brn (p0 < p1) (some ((0 : Int32))) (brn (p2 < p0) (some ((0 : Int32))) (some ((1 : Int32))))
theorem dX12_in_0 : decode cX12_in 0 = .ok (.iload_n 0, 1) := by decide +kernel
theorem dX12_in_1 : decode cX12_in 1 = .ok (.iload_n 1, 1) := by decide +kernel
theorem dX12_in_2 : decode cX12_in 2 = .ok (.if_icmp .lt 12, 3) := by decide +kernel
theorem dX12_in_5 : decode cX12_in 5 = .ok (.iload_n 0, 1) := by decide +kernel
theorem dX12_in_6 : decode cX12_in 6 = .ok (.iload_n 2, 1) := by decide +kernel
theorem dX12_in_7 : decode cX12_in 7 = .ok (.if_icmp .gt 7, 3) := by decide +kernel
theorem dX12_in_10 : decode cX12_in 10 = .ok (.iconst 1, 1) := by decide +kernel
theorem dX12_in_11 : decode cX12_in 11 = .ok (.goto 4, 3) := by decide +kernel
theorem dX12_in_14 : decode cX12_in 14 = .ok (.iconst 0, 1) := by decide +kernel
theorem dX12_in_15 : decode cX12_in 15 = .ok (.ireturn, 1) := by decide +kernel
theorem k_X12_in : cardS yX12_in (Cond.code yX12_in cX12_in 3 (some .boolean)) 3 := ⟨qs_X12_in, qc_X12_in, qn_X12, by decide +kernel, by decide +kernel, by decide +kernel⟩
set_option maxHeartbeats 4000000 in
set_option maxRecDepth 100000 in
theorem c_X12_in (l : Launch) (D : va_G) (g : Nat → ClassId) (p0 p1 p2 : Int32) (o : Int32) (h : F_X12_in p0 p1 p2 = some o) : MR l yX12_in (Cond.code yX12_in cX12_in 3 (some .boolean)) { frames := 0, cells := 0, slots := 0, locals := 0 } D g [.int p0, .int p1, .int p2] [] (some (.int o)) := by
  refine z_rd_start (by decide) (Nat.le_of_ble_eq_true rfl) ?_
  intro p e s m args below meth c Q X hr hQ
  refine z_lv (lv' := [(0, .int p0), (1, .int p1), (2, .int p2)]) rfl ?_
  refine z_iload_n X 0 dX12_in_0 rfl rfl ?_
  refine z_iload_n X 1 dX12_in_1 rfl rfl ?_
  refine z_icmp_lt X 14 dX12_in_2 (by decide) h (fun _ h => ?_) (fun _ h => ?_)
  · refine z_iconst X (0 : Int32) dX12_in_14 (by decide) ?_
    exact z_zretR X hQ hr dX12_in_15 rfl h
  · refine z_iload_n X 0 dX12_in_5 rfl rfl ?_
    refine z_iload_n X 2 dX12_in_6 rfl rfl ?_
    refine z_icmp_gt X 14 dX12_in_7 (by decide) h (fun _ h => ?_) (fun _ h => ?_)
    · refine z_iconst X (0 : Int32) dX12_in_14 (by decide) ?_
      exact z_zretR X hQ hr dX12_in_15 rfl h
    · refine z_iconst X (1 : Int32) dX12_in_10 (by decide) ?_
      refine z_goto X 15 dX12_in_11 (by decide) ?_
      exact z_zretR X hQ hr dX12_in_15 rfl h

def F_X12_keep (a_s : Nat → Int32) (f_thrown : Int32) (a_before : Nat → Int32) : Option (Int32 × (Nat → Int32)) :=
  grd (cpyok (0 : Int32) (0 : Int32) (147 : Int32) 147 147) (some ((0 : Int32), (va_cpy a_s a_before (0 : Int32).toNatClampNeg (0 : Int32).toNatClampNeg (147 : Int32).toNatClampNeg)))
theorem dX12_keep_0 : decode cX12_keep 0 = .ok (.aload_n 0, 1) := by decide +kernel
theorem dX12_keep_1 : decode cX12_keep 1 = .ok (.iconst 0, 1) := by decide +kernel
theorem dX12_keep_2 : decode cX12_keep 2 = .ok (.putfield 42, 3) := by decide +kernel
theorem dX12_keep_5 : decode cX12_keep 5 = .ok (.aload_n 0, 1) := by decide +kernel
theorem dX12_keep_6 : decode cX12_keep 6 = .ok (.getfield 9, 3) := by decide +kernel
theorem dX12_keep_9 : decode cX12_keep 9 = .ok (.iconst 0, 1) := by decide +kernel
theorem dX12_keep_10 : decode cX12_keep 10 = .ok (.aload_n 0, 1) := by decide +kernel
theorem dX12_keep_11 : decode cX12_keep 11 = .ok (.getfield 13, 3) := by decide +kernel
theorem dX12_keep_14 : decode cX12_keep 14 = .ok (.iconst 0, 1) := by decide +kernel
theorem dX12_keep_15 : decode cX12_keep 15 = .ok (.sipush 147, 3) := by decide +kernel
theorem dX12_keep_18 : decode cX12_keep 18 = .ok (.invokestatic 45, 3) := by decide +kernel
theorem dX12_keep_21 : decode cX12_keep 21 = .ok (.return_, 1) := by decide +kernel
theorem k_X12_keep : cardV yX12_keep (Cond.code yX12_keep cX12_keep 1 none) 0 := ⟨⟨qi_X12_keep, qv_X12_keep⟩, qc_X12_keep, qn_X12, by decide +kernel, by decide +kernel, by decide +kernel⟩
set_option maxHeartbeats 4000000 in
set_option maxRecDepth 100000 in
theorem c_X12_keep (l : Launch) (D : va_G) (g : Nat → ClassId) (q_this q_s q_before q_saved q_past q_steps q_goes q_line q_text q_orders : Nat) (f_isSaved : Int32) (f_pastMany : Int32) (f_thrown : Int32) (f_reason : Int32) (f_detail : Int32) (f_isRefused : Int32) (f_goesMany : Int32) (f_roundSteps : Int32) (f_lineMany : Int32) (f_length : Int32) (f_at : Int32) (f_isWrong : Int32) (f_errorAt : Int32) (f_orderMany : Int32) (a_s : Nat → Int32) (a_before : Nat → Int32) (o : Int32 × (Nat → Int32)) (h : F_X12_keep a_s f_thrown a_before = some o) : MW l yX12_keep (Cond.code yX12_keep cX12_keep 1 none) { frames := 1, cells := 0, slots := 0, locals := 40 } D g [.ref q_this] [(q_this, .inr (12, [.ref q_s, .ref q_before, .ref q_saved, .int f_isSaved, .ref q_past, .int f_pastMany, .int f_thrown, .int f_reason, .int f_detail, .int f_isRefused, .ref q_steps, .ref q_goes, .int f_goesMany, .int f_roundSteps, .ref q_line, .int f_lineMany, .ref q_text, .int f_length, .int f_at, .int f_isWrong, .int f_errorAt, .ref q_orders, .int f_orderMany])), (q_s, .inl (g 0, 147, .inl a_s)), (q_before, .inl (g 0, 147, .inl a_before))] none [(q_this, .inr (12, [.ref q_s, .ref q_before, .ref q_saved, .int f_isSaved, .ref q_past, .int f_pastMany, .int o.1, .int f_reason, .int f_detail, .int f_isRefused, .ref q_steps, .ref q_goes, .int f_goesMany, .int f_roundSteps, .ref q_line, .int f_lineMany, .ref q_text, .int f_length, .int f_at, .int f_isWrong, .int f_errorAt, .ref q_orders, .int f_orderMany])), (q_s, .inl (g 0, 147, .inl a_s)), (q_before, .inl (g 0, 147, .inl o.2))] := by
  refine z_wr_start (by decide) (Nat.le_of_ble_eq_true rfl) ?_
  intro p e s m args below meth c Q A X hr hQ hA
  refine z_lv (lv' := [(0, .ref q_this)]) rfl ?_
  refine z_aload_n X 0 dX12_keep_0 rfl rfl ?_
  refine z_iconst X (0 : Int32) dX12_keep_1 (by decide) ?_
  refine z_put (q0 := 0) (k := 6) (ci := 12) (ws' := [(q_this, .inr (12, [.ref q_s, .ref q_before, .ref q_saved, .int f_isSaved, .ref q_past, .int f_pastMany, .int (0 : Int32), .int f_reason, .int f_detail, .int f_isRefused, .ref q_steps, .ref q_goes, .int f_goesMany, .int f_roundSteps, .ref q_line, .int f_lineMany, .ref q_text, .int f_length, .int f_at, .int f_isWrong, .int f_errorAt, .ref q_orders, .int f_orderMany])), (q_s, .inl (g 0, 147, .inl a_s)), (q_before, .inl (g 0, 147, .inl a_before))]) X iw_X12 tyX12_ok nmX12 rfl qf_X12_X12_thrown (by decide) rfl rfl dX12_keep_2 rfl rfl rfl (Nat.le_of_ble_eq_true rfl) rfl ?_
  refine z_aload_n X 0 dX12_keep_5 rfl rfl ?_
  refine z_get (q0 := 0) (k := 0) (ci := 12) X IW_P iw_X12 rfl qf_X12_X12_s (by decide) dX12_keep_6 rfl rfl ?_
  refine z_iconst X (0 : Int32) dX12_keep_9 (by decide) ?_
  refine z_aload_n X 0 dX12_keep_10 rfl rfl ?_
  refine z_get (q0 := 0) (k := 1) (ci := 12) X IW_P iw_X12 rfl qf_X12_X12_before (by decide) dX12_keep_11 rfl rfl ?_
  refine z_iconst X (0 : Int32) dX12_keep_14 (by decide) ?_
  refine z_sipush X (147 : Int32) dX12_keep_15 (by decide) ?_
  refine z_copyi (q0 := 1) (q1 := 2) (ws' := [(q_this, .inr (12, [.ref q_s, .ref q_before, .ref q_saved, .int f_isSaved, .ref q_past, .int f_pastMany, .int (0 : Int32), .int f_reason, .int f_detail, .int f_isRefused, .ref q_steps, .ref q_goes, .int f_goesMany, .int f_roundSteps, .ref q_line, .int f_lineMany, .ref q_text, .int f_length, .int f_at, .int f_isWrong, .int f_errorAt, .ref q_orders, .int f_orderMany])), (q_s, .inl (g 0, 147, .inl a_s)), (q_before, .inl (g 0, 147, .inl (va_cpy a_s a_before (0 : Int32).toNatClampNeg (0 : Int32).toNatClampNeg (147 : Int32).toNatClampNeg)))]) X ql_X12_ac dX12_keep_18 rfl rfl h rfl (Nat.le_of_ble_eq_true rfl) (Nat.le_of_ble_eq_true rfl) (fun h => ?_)
  cases h
  exact z_vretW X hQ hA hr dX12_keep_21

def J_X12_ends_62 (p1 : Int32) (f_thrown : Int32) (a_before : Nat → Int32) (f_pastMany : Int32) (a_s : Nat → Int32) (a_past : Nat → Int32) : Option (Int32 × Int32 × (Nat → Int32) × (Nat → Int32)) :=
  grd (cpyok (0 : Int32) ((147 : Int32) * f_pastMany) (147 : Int32) 147 1176) (some (p1, (f_pastMany + (1 : Int32)), a_s, (va_cpy a_before a_past (0 : Int32).toNatClampNeg ((147 : Int32) * f_pastMany).toNatClampNeg (147 : Int32).toNatClampNeg)))

def F_X12_ends (p1 : Int32) (f_thrown : Int32) (a_before : Nat → Int32) (f_pastMany : Int32) (a_s : Nat → Int32) (a_past : Nat → Int32) : Option (Int32 × Int32 × (Nat → Int32) × (Nat → Int32)) :=
  brn (f_thrown ≤ 0) (brn (f_pastMany = (8 : Int32)) (grd (cpyok (147 : Int32) (0 : Int32) (1029 : Int32) 1176 1176) (J_X12_ends_62 p1 f_thrown a_before (f_pastMany - (1 : Int32)) a_s (va_cpy a_past a_past (147 : Int32).toNatClampNeg (0 : Int32).toNatClampNeg (1029 : Int32).toNatClampNeg))) (J_X12_ends_62 p1 f_thrown a_before f_pastMany a_s a_past)) (grd (cpyok (0 : Int32) (0 : Int32) (147 : Int32) 147 147) (some ((0 : Int32), f_pastMany, (va_cpy a_before a_s (0 : Int32).toNatClampNeg (0 : Int32).toNatClampNeg (147 : Int32).toNatClampNeg), a_past)))
theorem dX12_ends_0 : decode cX12_ends 0 = .ok (.aload_n 0, 1) := by decide +kernel
theorem dX12_ends_1 : decode cX12_ends 1 = .ok (.getfield 42, 3) := by decide +kernel
theorem dX12_ends_4 : decode cX12_ends 4 = .ok (.ifCond .le 21, 3) := by decide +kernel
theorem dX12_ends_7 : decode cX12_ends 7 = .ok (.aload_n 0, 1) := by decide +kernel
theorem dX12_ends_8 : decode cX12_ends 8 = .ok (.getfield 13, 3) := by decide +kernel
theorem dX12_ends_11 : decode cX12_ends 11 = .ok (.iconst 0, 1) := by decide +kernel
theorem dX12_ends_12 : decode cX12_ends 12 = .ok (.aload_n 0, 1) := by decide +kernel
theorem dX12_ends_13 : decode cX12_ends 13 = .ok (.getfield 9, 3) := by decide +kernel
theorem dX12_ends_16 : decode cX12_ends 16 = .ok (.iconst 0, 1) := by decide +kernel
theorem dX12_ends_17 : decode cX12_ends 17 = .ok (.sipush 147, 3) := by decide +kernel
theorem dX12_ends_20 : decode cX12_ends 20 = .ok (.invokestatic 45, 3) := by decide +kernel
theorem dX12_ends_23 : decode cX12_ends 23 = .ok (.iconst 0, 1) := by decide +kernel
theorem dX12_ends_24 : decode cX12_ends 24 = .ok (.ireturn, 1) := by decide +kernel
theorem dX12_ends_25 : decode cX12_ends 25 = .ok (.aload_n 0, 1) := by decide +kernel
theorem dX12_ends_26 : decode cX12_ends 26 = .ok (.getfield 51, 3) := by decide +kernel
theorem dX12_ends_29 : decode cX12_ends 29 = .ok (.bipush 8, 2) := by decide +kernel
theorem dX12_ends_31 : decode cX12_ends 31 = .ok (.if_icmp .ne 31, 3) := by decide +kernel
theorem dX12_ends_34 : decode cX12_ends 34 = .ok (.aload_n 0, 1) := by decide +kernel
theorem dX12_ends_35 : decode cX12_ends 35 = .ok (.getfield 19, 3) := by decide +kernel
theorem dX12_ends_38 : decode cX12_ends 38 = .ok (.sipush 147, 3) := by decide +kernel
theorem dX12_ends_41 : decode cX12_ends 41 = .ok (.aload_n 0, 1) := by decide +kernel
theorem dX12_ends_42 : decode cX12_ends 42 = .ok (.getfield 19, 3) := by decide +kernel
theorem dX12_ends_45 : decode cX12_ends 45 = .ok (.iconst 0, 1) := by decide +kernel
theorem dX12_ends_46 : decode cX12_ends 46 = .ok (.sipush 1029, 3) := by decide +kernel
theorem dX12_ends_49 : decode cX12_ends 49 = .ok (.invokestatic 45, 3) := by decide +kernel
theorem dX12_ends_52 : decode cX12_ends 52 = .ok (.aload_n 0, 1) := by decide +kernel
theorem dX12_ends_53 : decode cX12_ends 53 = .ok (.dup, 1) := by decide +kernel
theorem dX12_ends_54 : decode cX12_ends 54 = .ok (.getfield 51, 3) := by decide +kernel
theorem dX12_ends_57 : decode cX12_ends 57 = .ok (.iconst 1, 1) := by decide +kernel
theorem dX12_ends_58 : decode cX12_ends 58 = .ok (.isub, 1) := by decide +kernel
theorem dX12_ends_59 : decode cX12_ends 59 = .ok (.putfield 51, 3) := by decide +kernel
theorem dX12_ends_62 : decode cX12_ends 62 = .ok (.aload_n 0, 1) := by decide +kernel
theorem dX12_ends_63 : decode cX12_ends 63 = .ok (.getfield 13, 3) := by decide +kernel
theorem dX12_ends_66 : decode cX12_ends 66 = .ok (.iconst 0, 1) := by decide +kernel
theorem dX12_ends_67 : decode cX12_ends 67 = .ok (.aload_n 0, 1) := by decide +kernel
theorem dX12_ends_68 : decode cX12_ends 68 = .ok (.getfield 19, 3) := by decide +kernel
theorem dX12_ends_71 : decode cX12_ends 71 = .ok (.sipush 147, 3) := by decide +kernel
theorem dX12_ends_74 : decode cX12_ends 74 = .ok (.aload_n 0, 1) := by decide +kernel
theorem dX12_ends_75 : decode cX12_ends 75 = .ok (.getfield 51, 3) := by decide +kernel
theorem dX12_ends_78 : decode cX12_ends 78 = .ok (.imul, 1) := by decide +kernel
theorem dX12_ends_79 : decode cX12_ends 79 = .ok (.sipush 147, 3) := by decide +kernel
theorem dX12_ends_82 : decode cX12_ends 82 = .ok (.invokestatic 45, 3) := by decide +kernel
theorem dX12_ends_85 : decode cX12_ends 85 = .ok (.aload_n 0, 1) := by decide +kernel
theorem dX12_ends_86 : decode cX12_ends 86 = .ok (.dup, 1) := by decide +kernel
theorem dX12_ends_87 : decode cX12_ends 87 = .ok (.getfield 51, 3) := by decide +kernel
theorem dX12_ends_90 : decode cX12_ends 90 = .ok (.iconst 1, 1) := by decide +kernel
theorem dX12_ends_91 : decode cX12_ends 91 = .ok (.iadd, 1) := by decide +kernel
theorem dX12_ends_92 : decode cX12_ends 92 = .ok (.putfield 51, 3) := by decide +kernel
theorem dX12_ends_95 : decode cX12_ends 95 = .ok (.iload_n 1, 1) := by decide +kernel
theorem dX12_ends_96 : decode cX12_ends 96 = .ok (.ireturn, 1) := by decide +kernel
theorem k_X12_ends : cardV yX12_ends (Cond.code yX12_ends cX12_ends 2 (some .int)) 1 := ⟨⟨qi_X12_ends, qv_X12_ends⟩, qc_X12_ends, qn_X12, by decide +kernel, by decide +kernel, by decide +kernel⟩
set_option maxHeartbeats 4000000 in
set_option maxRecDepth 100000 in
theorem c_X12_ends (l : Launch) (D : va_G) (g : Nat → ClassId) (q_this q_s q_before q_saved q_past q_steps q_goes q_line q_text q_orders : Nat) (p1 : Int32) (f_isSaved : Int32) (f_pastMany : Int32) (f_thrown : Int32) (f_reason : Int32) (f_detail : Int32) (f_isRefused : Int32) (f_goesMany : Int32) (f_roundSteps : Int32) (f_lineMany : Int32) (f_length : Int32) (f_at : Int32) (f_isWrong : Int32) (f_errorAt : Int32) (f_orderMany : Int32) (a_s : Nat → Int32) (a_before : Nat → Int32) (a_past : Nat → Int32) (o : Int32 × Int32 × (Nat → Int32) × (Nat → Int32)) (h : F_X12_ends p1 f_thrown a_before f_pastMany a_s a_past = some o) : MW l yX12_ends (Cond.code yX12_ends cX12_ends 2 (some .int)) { frames := 1, cells := 0, slots := 0, locals := 40 } D g [.ref q_this, .int p1] [(q_this, .inr (12, [.ref q_s, .ref q_before, .ref q_saved, .int f_isSaved, .ref q_past, .int f_pastMany, .int f_thrown, .int f_reason, .int f_detail, .int f_isRefused, .ref q_steps, .ref q_goes, .int f_goesMany, .int f_roundSteps, .ref q_line, .int f_lineMany, .ref q_text, .int f_length, .int f_at, .int f_isWrong, .int f_errorAt, .ref q_orders, .int f_orderMany])), (q_s, .inl (g 0, 147, .inl a_s)), (q_before, .inl (g 0, 147, .inl a_before)), (q_past, .inl (g 0, 1176, .inl a_past))] (some (.int o.1)) [(q_this, .inr (12, [.ref q_s, .ref q_before, .ref q_saved, .int f_isSaved, .ref q_past, .int o.2.1, .int f_thrown, .int f_reason, .int f_detail, .int f_isRefused, .ref q_steps, .ref q_goes, .int f_goesMany, .int f_roundSteps, .ref q_line, .int f_lineMany, .ref q_text, .int f_length, .int f_at, .int f_isWrong, .int f_errorAt, .ref q_orders, .int f_orderMany])), (q_s, .inl (g 0, 147, .inl o.2.2.1)), (q_before, .inl (g 0, 147, .inl a_before)), (q_past, .inl (g 0, 1176, .inl o.2.2.2))] := by
  refine z_wr_start (by decide) (Nat.le_of_ble_eq_true rfl) ?_
  intro p e s m args below meth c Q A X hr hQ hA
  refine z_lv (lv' := [(0, .ref q_this), (1, .int p1)]) rfl ?_
  have H62 : ∀ (f_pastMany : Int32) (a_s : Nat → Int32) (a_past : Nat → Int32), J_X12_ends_62 p1 f_thrown a_before f_pastMany a_s a_past = some o → Z p l e { frames := 1, cells := 0, slots := 0, locals := 40 } s m args below meth c Q 2 0 0 (IW D A s [(q_this, .inr (12, [.ref q_s, .ref q_before, .ref q_saved, .int f_isSaved, .ref q_past, .int f_pastMany, .int f_thrown, .int f_reason, .int f_detail, .int f_isRefused, .ref q_steps, .ref q_goes, .int f_goesMany, .int f_roundSteps, .ref q_line, .int f_lineMany, .ref q_text, .int f_length, .int f_at, .int f_isWrong, .int f_errorAt, .ref q_orders, .int f_orderMany])), (q_s, .inl (g 0, 147, .inl a_s)), (q_before, .inl (g 0, 147, .inl a_before)), (q_past, .inl (g 0, 1176, .inl a_past))]) 62 [(0, .ref q_this), (1, .int p1)] [] := by
    intro f_pastMany a_s a_past h
    refine z_aload_n X 0 dX12_ends_62 rfl rfl ?_
    refine z_get (q0 := 0) (k := 1) (ci := 12) X IW_P iw_X12 rfl qf_X12_X12_before (by decide) dX12_ends_63 rfl rfl ?_
    refine z_iconst X (0 : Int32) dX12_ends_66 (by decide) ?_
    refine z_aload_n X 0 dX12_ends_67 rfl rfl ?_
    refine z_get (q0 := 0) (k := 4) (ci := 12) X IW_P iw_X12 rfl qf_X12_X12_past (by decide) dX12_ends_68 rfl rfl ?_
    refine z_sipush X (147 : Int32) dX12_ends_71 (by decide) ?_
    refine z_aload_n X 0 dX12_ends_74 rfl rfl ?_
    refine z_get (q0 := 0) (k := 5) (ci := 12) X IW_P iw_X12 rfl qf_X12_X12_pastMany (by decide) dX12_ends_75 rfl rfl ?_
    refine z_imul X dX12_ends_78 ?_
    refine z_sipush X (147 : Int32) dX12_ends_79 (by decide) ?_
    refine z_copyi (q0 := 2) (q1 := 3) (ws' := [(q_this, .inr (12, [.ref q_s, .ref q_before, .ref q_saved, .int f_isSaved, .ref q_past, .int f_pastMany, .int f_thrown, .int f_reason, .int f_detail, .int f_isRefused, .ref q_steps, .ref q_goes, .int f_goesMany, .int f_roundSteps, .ref q_line, .int f_lineMany, .ref q_text, .int f_length, .int f_at, .int f_isWrong, .int f_errorAt, .ref q_orders, .int f_orderMany])), (q_s, .inl (g 0, 147, .inl a_s)), (q_before, .inl (g 0, 147, .inl a_before)), (q_past, .inl (g 0, 1176, .inl (va_cpy a_before a_past (0 : Int32).toNatClampNeg ((147 : Int32) * f_pastMany).toNatClampNeg (147 : Int32).toNatClampNeg)))]) X ql_X12_ac dX12_ends_82 rfl rfl h rfl (Nat.le_of_ble_eq_true rfl) (Nat.le_of_ble_eq_true rfl) (fun h => ?_)
    refine z_aload_n X 0 dX12_ends_85 rfl rfl ?_
    refine z_dup X dX12_ends_86 rfl ?_
    refine z_get (q0 := 0) (k := 5) (ci := 12) X IW_P iw_X12 rfl qf_X12_X12_pastMany (by decide) dX12_ends_87 rfl rfl ?_
    refine z_iconst X (1 : Int32) dX12_ends_90 (by decide) ?_
    refine z_iadd X dX12_ends_91 ?_
    refine z_put (q0 := 0) (k := 5) (ci := 12) (ws' := [(q_this, .inr (12, [.ref q_s, .ref q_before, .ref q_saved, .int f_isSaved, .ref q_past, .int (f_pastMany + (1 : Int32)), .int f_thrown, .int f_reason, .int f_detail, .int f_isRefused, .ref q_steps, .ref q_goes, .int f_goesMany, .int f_roundSteps, .ref q_line, .int f_lineMany, .ref q_text, .int f_length, .int f_at, .int f_isWrong, .int f_errorAt, .ref q_orders, .int f_orderMany])), (q_s, .inl (g 0, 147, .inl a_s)), (q_before, .inl (g 0, 147, .inl a_before)), (q_past, .inl (g 0, 1176, .inl (va_cpy a_before a_past (0 : Int32).toNatClampNeg ((147 : Int32) * f_pastMany).toNatClampNeg (147 : Int32).toNatClampNeg)))]) X iw_X12 tyX12_ok nmX12 rfl qf_X12_X12_pastMany (by decide) rfl rfl dX12_ends_92 rfl rfl rfl (Nat.le_of_ble_eq_true rfl) rfl ?_
    refine z_iload_n X 1 dX12_ends_95 rfl rfl ?_
    cases h
    exact z_iretW X hQ hA hr dX12_ends_96
  refine z_aload_n X 0 dX12_ends_0 rfl rfl ?_
  refine z_get (q0 := 0) (k := 6) (ci := 12) X IW_P iw_X12 rfl qf_X12_X12_thrown (by decide) dX12_ends_1 rfl rfl ?_
  refine z_if_le X 25 dX12_ends_4 (by decide) h (fun _ h => ?_) (fun _ h => ?_)
  · refine z_aload_n X 0 dX12_ends_25 rfl rfl ?_
    refine z_get (q0 := 0) (k := 5) (ci := 12) X IW_P iw_X12 rfl qf_X12_X12_pastMany (by decide) dX12_ends_26 rfl rfl ?_
    refine z_bipush X (8 : Int32) dX12_ends_29 (by decide) ?_
    refine z_icmp_ne X 62 dX12_ends_31 (by decide) h (fun _ h => ?_) (fun _ h => ?_)
    · refine z_aload_n X 0 dX12_ends_34 rfl rfl ?_
      refine z_get (q0 := 0) (k := 4) (ci := 12) X IW_P iw_X12 rfl qf_X12_X12_past (by decide) dX12_ends_35 rfl rfl ?_
      refine z_sipush X (147 : Int32) dX12_ends_38 (by decide) ?_
      refine z_aload_n X 0 dX12_ends_41 rfl rfl ?_
      refine z_get (q0 := 0) (k := 4) (ci := 12) X IW_P iw_X12 rfl qf_X12_X12_past (by decide) dX12_ends_42 rfl rfl ?_
      refine z_iconst X (0 : Int32) dX12_ends_45 (by decide) ?_
      refine z_sipush X (1029 : Int32) dX12_ends_46 (by decide) ?_
      refine z_copyi (q0 := 3) (q1 := 3) (ws' := [(q_this, .inr (12, [.ref q_s, .ref q_before, .ref q_saved, .int f_isSaved, .ref q_past, .int f_pastMany, .int f_thrown, .int f_reason, .int f_detail, .int f_isRefused, .ref q_steps, .ref q_goes, .int f_goesMany, .int f_roundSteps, .ref q_line, .int f_lineMany, .ref q_text, .int f_length, .int f_at, .int f_isWrong, .int f_errorAt, .ref q_orders, .int f_orderMany])), (q_s, .inl (g 0, 147, .inl a_s)), (q_before, .inl (g 0, 147, .inl a_before)), (q_past, .inl (g 0, 1176, .inl (va_cpy a_past a_past (147 : Int32).toNatClampNeg (0 : Int32).toNatClampNeg (1029 : Int32).toNatClampNeg)))]) X ql_X12_ac dX12_ends_49 rfl rfl h rfl (Nat.le_of_ble_eq_true rfl) (Nat.le_of_ble_eq_true rfl) (fun h => ?_)
      refine z_aload_n X 0 dX12_ends_52 rfl rfl ?_
      refine z_dup X dX12_ends_53 rfl ?_
      refine z_get (q0 := 0) (k := 5) (ci := 12) X IW_P iw_X12 rfl qf_X12_X12_pastMany (by decide) dX12_ends_54 rfl rfl ?_
      refine z_iconst X (1 : Int32) dX12_ends_57 (by decide) ?_
      refine z_isub X dX12_ends_58 ?_
      refine z_put (q0 := 0) (k := 5) (ci := 12) (ws' := [(q_this, .inr (12, [.ref q_s, .ref q_before, .ref q_saved, .int f_isSaved, .ref q_past, .int (f_pastMany - (1 : Int32)), .int f_thrown, .int f_reason, .int f_detail, .int f_isRefused, .ref q_steps, .ref q_goes, .int f_goesMany, .int f_roundSteps, .ref q_line, .int f_lineMany, .ref q_text, .int f_length, .int f_at, .int f_isWrong, .int f_errorAt, .ref q_orders, .int f_orderMany])), (q_s, .inl (g 0, 147, .inl a_s)), (q_before, .inl (g 0, 147, .inl a_before)), (q_past, .inl (g 0, 1176, .inl (va_cpy a_past a_past (147 : Int32).toNatClampNeg (0 : Int32).toNatClampNeg (1029 : Int32).toNatClampNeg)))]) X iw_X12 tyX12_ok nmX12 rfl qf_X12_X12_pastMany (by decide) rfl rfl dX12_ends_59 rfl rfl rfl (Nat.le_of_ble_eq_true rfl) rfl ?_
      exact H62 (f_pastMany - (1 : Int32)) a_s (va_cpy a_past a_past (147 : Int32).toNatClampNeg (0 : Int32).toNatClampNeg (1029 : Int32).toNatClampNeg) h
    · exact H62 f_pastMany a_s a_past h
  · refine z_aload_n X 0 dX12_ends_7 rfl rfl ?_
    refine z_get (q0 := 0) (k := 1) (ci := 12) X IW_P iw_X12 rfl qf_X12_X12_before (by decide) dX12_ends_8 rfl rfl ?_
    refine z_iconst X (0 : Int32) dX12_ends_11 (by decide) ?_
    refine z_aload_n X 0 dX12_ends_12 rfl rfl ?_
    refine z_get (q0 := 0) (k := 0) (ci := 12) X IW_P iw_X12 rfl qf_X12_X12_s (by decide) dX12_ends_13 rfl rfl ?_
    refine z_iconst X (0 : Int32) dX12_ends_16 (by decide) ?_
    refine z_sipush X (147 : Int32) dX12_ends_17 (by decide) ?_
    refine z_copyi (q0 := 2) (q1 := 1) (ws' := [(q_this, .inr (12, [.ref q_s, .ref q_before, .ref q_saved, .int f_isSaved, .ref q_past, .int f_pastMany, .int f_thrown, .int f_reason, .int f_detail, .int f_isRefused, .ref q_steps, .ref q_goes, .int f_goesMany, .int f_roundSteps, .ref q_line, .int f_lineMany, .ref q_text, .int f_length, .int f_at, .int f_isWrong, .int f_errorAt, .ref q_orders, .int f_orderMany])), (q_s, .inl (g 0, 147, .inl (va_cpy a_before a_s (0 : Int32).toNatClampNeg (0 : Int32).toNatClampNeg (147 : Int32).toNatClampNeg))), (q_before, .inl (g 0, 147, .inl a_before)), (q_past, .inl (g 0, 1176, .inl a_past))]) X ql_X12_ac dX12_ends_20 rfl rfl h rfl (Nat.le_of_ble_eq_true rfl) (Nat.le_of_ble_eq_true rfl) (fun h => ?_)
    refine z_iconst X (0 : Int32) dX12_ends_23 (by decide) ?_
    cases h
    exact z_iretW X hQ hA hr dX12_ends_24

def F_X12_fails (p1 : Int32) (f_thrown : Int32) : Option (Int32 × Int32) :=
  some ((0 : Int32), p1)
theorem dX12_fails_0 : decode cX12_fails 0 = .ok (.aload_n 0, 1) := by decide +kernel
theorem dX12_fails_1 : decode cX12_fails 1 = .ok (.iload_n 1, 1) := by decide +kernel
theorem dX12_fails_2 : decode cX12_fails 2 = .ok (.putfield 42, 3) := by decide +kernel
theorem dX12_fails_5 : decode cX12_fails 5 = .ok (.iconst 0, 1) := by decide +kernel
theorem dX12_fails_6 : decode cX12_fails 6 = .ok (.ireturn, 1) := by decide +kernel
theorem k_X12_fails : cardV yX12_fails (Cond.code yX12_fails cX12_fails 2 (some .int)) 1 := ⟨⟨qi_X12_fails, qv_X12_fails⟩, qc_X12_fails, qn_X12, by decide +kernel, by decide +kernel, by decide +kernel⟩
set_option maxHeartbeats 4000000 in
set_option maxRecDepth 100000 in
theorem c_X12_fails (l : Launch) (D : va_G) (g : Nat → ClassId) (q_this q_s q_before q_saved q_past q_steps q_goes q_line q_text q_orders : Nat) (p1 : Int32) (f_isSaved : Int32) (f_pastMany : Int32) (f_thrown : Int32) (f_reason : Int32) (f_detail : Int32) (f_isRefused : Int32) (f_goesMany : Int32) (f_roundSteps : Int32) (f_lineMany : Int32) (f_length : Int32) (f_at : Int32) (f_isWrong : Int32) (f_errorAt : Int32) (f_orderMany : Int32) (o : Int32 × Int32) (h : F_X12_fails p1 f_thrown = some o) : MW l yX12_fails (Cond.code yX12_fails cX12_fails 2 (some .int)) { frames := 0, cells := 0, slots := 0, locals := 0 } D g [.ref q_this, .int p1] [(q_this, .inr (12, [.ref q_s, .ref q_before, .ref q_saved, .int f_isSaved, .ref q_past, .int f_pastMany, .int f_thrown, .int f_reason, .int f_detail, .int f_isRefused, .ref q_steps, .ref q_goes, .int f_goesMany, .int f_roundSteps, .ref q_line, .int f_lineMany, .ref q_text, .int f_length, .int f_at, .int f_isWrong, .int f_errorAt, .ref q_orders, .int f_orderMany]))] (some (.int o.1)) [(q_this, .inr (12, [.ref q_s, .ref q_before, .ref q_saved, .int f_isSaved, .ref q_past, .int f_pastMany, .int o.2, .int f_reason, .int f_detail, .int f_isRefused, .ref q_steps, .ref q_goes, .int f_goesMany, .int f_roundSteps, .ref q_line, .int f_lineMany, .ref q_text, .int f_length, .int f_at, .int f_isWrong, .int f_errorAt, .ref q_orders, .int f_orderMany]))] := by
  refine z_wr_start (by decide) (Nat.le_of_ble_eq_true rfl) ?_
  intro p e s m args below meth c Q A X hr hQ hA
  refine z_lv (lv' := [(0, .ref q_this), (1, .int p1)]) rfl ?_
  refine z_aload_n X 0 dX12_fails_0 rfl rfl ?_
  refine z_iload_n X 1 dX12_fails_1 rfl rfl ?_
  refine z_put (q0 := 0) (k := 6) (ci := 12) (ws' := [(q_this, .inr (12, [.ref q_s, .ref q_before, .ref q_saved, .int f_isSaved, .ref q_past, .int f_pastMany, .int p1, .int f_reason, .int f_detail, .int f_isRefused, .ref q_steps, .ref q_goes, .int f_goesMany, .int f_roundSteps, .ref q_line, .int f_lineMany, .ref q_text, .int f_length, .int f_at, .int f_isWrong, .int f_errorAt, .ref q_orders, .int f_orderMany]))]) X iw_X12 tyX12_ok nmX12 rfl qf_X12_X12_thrown (by decide) rfl rfl dX12_fails_2 rfl rfl rfl (Nat.le_of_ble_eq_true rfl) rfl ?_
  refine z_iconst X (0 : Int32) dX12_fails_5 (by decide) ?_
  cases h
  exact z_iretW X hQ hA hr dX12_fails_6

def F_X12_refuse (p1 : Int32) (p2 : Int32) (p3 : Int32) (f_thrown : Int32) (f_reason : Int32) (f_detail : Int32) (f_isRefused : Int32) : Option (Int32 × Int32 × Int32 × Int32 × Int32) :=
  some ((0 : Int32), p1, p2, p3, (1 : Int32))
theorem dX12_refuse_0 : decode cX12_refuse 0 = .ok (.aload_n 0, 1) := by decide +kernel
theorem dX12_refuse_1 : decode cX12_refuse 1 = .ok (.iload_n 1, 1) := by decide +kernel
theorem dX12_refuse_2 : decode cX12_refuse 2 = .ok (.putfield 42, 3) := by decide +kernel
theorem dX12_refuse_5 : decode cX12_refuse 5 = .ok (.aload_n 0, 1) := by decide +kernel
theorem dX12_refuse_6 : decode cX12_refuse 6 = .ok (.iconst 1, 1) := by decide +kernel
theorem dX12_refuse_7 : decode cX12_refuse 7 = .ok (.putfield 54, 3) := by decide +kernel
theorem dX12_refuse_10 : decode cX12_refuse 10 = .ok (.aload_n 0, 1) := by decide +kernel
theorem dX12_refuse_11 : decode cX12_refuse 11 = .ok (.iload_n 2, 1) := by decide +kernel
theorem dX12_refuse_12 : decode cX12_refuse 12 = .ok (.putfield 58, 3) := by decide +kernel
theorem dX12_refuse_15 : decode cX12_refuse 15 = .ok (.aload_n 0, 1) := by decide +kernel
theorem dX12_refuse_16 : decode cX12_refuse 16 = .ok (.iload_n 3, 1) := by decide +kernel
theorem dX12_refuse_17 : decode cX12_refuse 17 = .ok (.putfield 61, 3) := by decide +kernel
theorem dX12_refuse_20 : decode cX12_refuse 20 = .ok (.iconst 0, 1) := by decide +kernel
theorem dX12_refuse_21 : decode cX12_refuse 21 = .ok (.ireturn, 1) := by decide +kernel
theorem k_X12_refuse : cardV yX12_refuse (Cond.code yX12_refuse cX12_refuse 4 (some .int)) 3 := ⟨⟨qi_X12_refuse, qv_X12_refuse⟩, qc_X12_refuse, qn_X12, by decide +kernel, by decide +kernel, by decide +kernel⟩
set_option maxHeartbeats 4000000 in
set_option maxRecDepth 100000 in
theorem c_X12_refuse (l : Launch) (D : va_G) (g : Nat → ClassId) (q_this q_s q_before q_saved q_past q_steps q_goes q_line q_text q_orders : Nat) (p1 p2 p3 : Int32) (f_isSaved : Int32) (f_pastMany : Int32) (f_thrown : Int32) (f_reason : Int32) (f_detail : Int32) (f_isRefused : Int32) (f_goesMany : Int32) (f_roundSteps : Int32) (f_lineMany : Int32) (f_length : Int32) (f_at : Int32) (f_isWrong : Int32) (f_errorAt : Int32) (f_orderMany : Int32) (o : Int32 × Int32 × Int32 × Int32 × Int32) (h : F_X12_refuse p1 p2 p3 f_thrown f_reason f_detail f_isRefused = some o) : MW l yX12_refuse (Cond.code yX12_refuse cX12_refuse 4 (some .int)) { frames := 0, cells := 0, slots := 0, locals := 0 } D g [.ref q_this, .int p1, .int p2, .int p3] [(q_this, .inr (12, [.ref q_s, .ref q_before, .ref q_saved, .int f_isSaved, .ref q_past, .int f_pastMany, .int f_thrown, .int f_reason, .int f_detail, .int f_isRefused, .ref q_steps, .ref q_goes, .int f_goesMany, .int f_roundSteps, .ref q_line, .int f_lineMany, .ref q_text, .int f_length, .int f_at, .int f_isWrong, .int f_errorAt, .ref q_orders, .int f_orderMany]))] (some (.int o.1)) [(q_this, .inr (12, [.ref q_s, .ref q_before, .ref q_saved, .int f_isSaved, .ref q_past, .int f_pastMany, .int o.2.1, .int o.2.2.1, .int o.2.2.2.1, .int o.2.2.2.2, .ref q_steps, .ref q_goes, .int f_goesMany, .int f_roundSteps, .ref q_line, .int f_lineMany, .ref q_text, .int f_length, .int f_at, .int f_isWrong, .int f_errorAt, .ref q_orders, .int f_orderMany]))] := by
  refine z_wr_start (by decide) (Nat.le_of_ble_eq_true rfl) ?_
  intro p e s m args below meth c Q A X hr hQ hA
  refine z_lv (lv' := [(0, .ref q_this), (1, .int p1), (2, .int p2), (3, .int p3)]) rfl ?_
  refine z_aload_n X 0 dX12_refuse_0 rfl rfl ?_
  refine z_iload_n X 1 dX12_refuse_1 rfl rfl ?_
  refine z_put (q0 := 0) (k := 6) (ci := 12) (ws' := [(q_this, .inr (12, [.ref q_s, .ref q_before, .ref q_saved, .int f_isSaved, .ref q_past, .int f_pastMany, .int p1, .int f_reason, .int f_detail, .int f_isRefused, .ref q_steps, .ref q_goes, .int f_goesMany, .int f_roundSteps, .ref q_line, .int f_lineMany, .ref q_text, .int f_length, .int f_at, .int f_isWrong, .int f_errorAt, .ref q_orders, .int f_orderMany]))]) X iw_X12 tyX12_ok nmX12 rfl qf_X12_X12_thrown (by decide) rfl rfl dX12_refuse_2 rfl rfl rfl (Nat.le_of_ble_eq_true rfl) rfl ?_
  refine z_aload_n X 0 dX12_refuse_5 rfl rfl ?_
  refine z_iconst X (1 : Int32) dX12_refuse_6 (by decide) ?_
  refine z_put (q0 := 0) (k := 9) (ci := 12) (ws' := [(q_this, .inr (12, [.ref q_s, .ref q_before, .ref q_saved, .int f_isSaved, .ref q_past, .int f_pastMany, .int p1, .int f_reason, .int f_detail, .int (1 : Int32), .ref q_steps, .ref q_goes, .int f_goesMany, .int f_roundSteps, .ref q_line, .int f_lineMany, .ref q_text, .int f_length, .int f_at, .int f_isWrong, .int f_errorAt, .ref q_orders, .int f_orderMany]))]) X iw_X12 tyX12_ok nmX12 rfl qf_X12_X12_isRefused (by decide) rfl rfl dX12_refuse_7 rfl rfl rfl (Nat.le_of_ble_eq_true rfl) rfl ?_
  refine z_aload_n X 0 dX12_refuse_10 rfl rfl ?_
  refine z_iload_n X 2 dX12_refuse_11 rfl rfl ?_
  refine z_put (q0 := 0) (k := 7) (ci := 12) (ws' := [(q_this, .inr (12, [.ref q_s, .ref q_before, .ref q_saved, .int f_isSaved, .ref q_past, .int f_pastMany, .int p1, .int p2, .int f_detail, .int (1 : Int32), .ref q_steps, .ref q_goes, .int f_goesMany, .int f_roundSteps, .ref q_line, .int f_lineMany, .ref q_text, .int f_length, .int f_at, .int f_isWrong, .int f_errorAt, .ref q_orders, .int f_orderMany]))]) X iw_X12 tyX12_ok nmX12 rfl qf_X12_X12_reason (by decide) rfl rfl dX12_refuse_12 rfl rfl rfl (Nat.le_of_ble_eq_true rfl) rfl ?_
  refine z_aload_n X 0 dX12_refuse_15 rfl rfl ?_
  refine z_iload_n X 3 dX12_refuse_16 rfl rfl ?_
  refine z_put (q0 := 0) (k := 8) (ci := 12) (ws' := [(q_this, .inr (12, [.ref q_s, .ref q_before, .ref q_saved, .int f_isSaved, .ref q_past, .int f_pastMany, .int p1, .int p2, .int p3, .int (1 : Int32), .ref q_steps, .ref q_goes, .int f_goesMany, .int f_roundSteps, .ref q_line, .int f_lineMany, .ref q_text, .int f_length, .int f_at, .int f_isWrong, .int f_errorAt, .ref q_orders, .int f_orderMany]))]) X iw_X12 tyX12_ok nmX12 rfl qf_X12_X12_detail (by decide) rfl rfl dX12_refuse_17 rfl rfl rfl (Nat.le_of_ble_eq_true rfl) rfl ?_
  refine z_iconst X (0 : Int32) dX12_refuse_20 (by decide) ?_
  cases h
  exact z_iretW X hQ hA hr dX12_refuse_21

def J_X12_refusal_13 (p1 : Int32) (f_reason : Int32) (f_detail : Int32) (t0 : Int32) (f_thrown : Int32) : Option (Int32 × Int32) :=
  brn (t0 ≤ 0) (brn (p1 = 0) (some (f_reason, t0)) (some (f_detail, t0))) (some ((0 : Int32), t0))

def F_X12_refusal (p1 : Int32) (f_reason : Int32) (f_detail : Int32) (f_thrown : Int32) : Option (Int32 × Int32) :=
  brn (f_reason = 0) (J_X12_refusal_13 p1 f_reason f_detail (1 : Int32) f_thrown) (J_X12_refusal_13 p1 f_reason f_detail (0 : Int32) f_thrown)
theorem dX12_refusal_0 : decode cX12_refusal 0 = .ok (.aload_n 0, 1) := by decide +kernel
theorem dX12_refusal_1 : decode cX12_refusal 1 = .ok (.aload_n 0, 1) := by decide +kernel
theorem dX12_refusal_2 : decode cX12_refusal 2 = .ok (.getfield 58, 3) := by decide +kernel
theorem dX12_refusal_5 : decode cX12_refusal 5 = .ok (.ifCond .ne 7, 3) := by decide +kernel
theorem dX12_refusal_8 : decode cX12_refusal 8 = .ok (.iconst 1, 1) := by decide +kernel
theorem dX12_refusal_9 : decode cX12_refusal 9 = .ok (.goto 4, 3) := by decide +kernel
theorem dX12_refusal_12 : decode cX12_refusal 12 = .ok (.iconst 0, 1) := by decide +kernel
theorem dX12_refusal_13 : decode cX12_refusal 13 = .ok (.putfield 42, 3) := by decide +kernel
theorem dX12_refusal_16 : decode cX12_refusal 16 = .ok (.aload_n 0, 1) := by decide +kernel
theorem dX12_refusal_17 : decode cX12_refusal 17 = .ok (.getfield 42, 3) := by decide +kernel
theorem dX12_refusal_20 : decode cX12_refusal 20 = .ok (.ifCond .le 7, 3) := by decide +kernel
theorem dX12_refusal_23 : decode cX12_refusal 23 = .ok (.iconst 0, 1) := by decide +kernel
theorem dX12_refusal_24 : decode cX12_refusal 24 = .ok (.goto 18, 3) := by decide +kernel
theorem dX12_refusal_27 : decode cX12_refusal 27 = .ok (.iload_n 1, 1) := by decide +kernel
theorem dX12_refusal_28 : decode cX12_refusal 28 = .ok (.ifCond .eq 10, 3) := by decide +kernel
theorem dX12_refusal_31 : decode cX12_refusal 31 = .ok (.aload_n 0, 1) := by decide +kernel
theorem dX12_refusal_32 : decode cX12_refusal 32 = .ok (.getfield 61, 3) := by decide +kernel
theorem dX12_refusal_35 : decode cX12_refusal 35 = .ok (.goto 7, 3) := by decide +kernel
theorem dX12_refusal_38 : decode cX12_refusal 38 = .ok (.aload_n 0, 1) := by decide +kernel
theorem dX12_refusal_39 : decode cX12_refusal 39 = .ok (.getfield 58, 3) := by decide +kernel
theorem dX12_refusal_42 : decode cX12_refusal 42 = .ok (.ireturn, 1) := by decide +kernel
theorem k_X12_refusal : cardV yX12_refusal (Cond.code yX12_refusal cX12_refusal 2 (some .int)) 1 := ⟨⟨qi_X12_refusal, qv_X12_refusal⟩, qc_X12_refusal, qn_X12, by decide +kernel, by decide +kernel, by decide +kernel⟩
set_option maxHeartbeats 4000000 in
set_option maxRecDepth 100000 in
theorem c_X12_refusal (l : Launch) (D : va_G) (g : Nat → ClassId) (q_this q_s q_before q_saved q_past q_steps q_goes q_line q_text q_orders : Nat) (p1 : Int32) (f_isSaved : Int32) (f_pastMany : Int32) (f_thrown : Int32) (f_reason : Int32) (f_detail : Int32) (f_isRefused : Int32) (f_goesMany : Int32) (f_roundSteps : Int32) (f_lineMany : Int32) (f_length : Int32) (f_at : Int32) (f_isWrong : Int32) (f_errorAt : Int32) (f_orderMany : Int32) (o : Int32 × Int32) (h : F_X12_refusal p1 f_reason f_detail f_thrown = some o) : MW l yX12_refusal (Cond.code yX12_refusal cX12_refusal 2 (some .int)) { frames := 0, cells := 0, slots := 0, locals := 0 } D g [.ref q_this, .int p1] [(q_this, .inr (12, [.ref q_s, .ref q_before, .ref q_saved, .int f_isSaved, .ref q_past, .int f_pastMany, .int f_thrown, .int f_reason, .int f_detail, .int f_isRefused, .ref q_steps, .ref q_goes, .int f_goesMany, .int f_roundSteps, .ref q_line, .int f_lineMany, .ref q_text, .int f_length, .int f_at, .int f_isWrong, .int f_errorAt, .ref q_orders, .int f_orderMany]))] (some (.int o.1)) [(q_this, .inr (12, [.ref q_s, .ref q_before, .ref q_saved, .int f_isSaved, .ref q_past, .int f_pastMany, .int o.2, .int f_reason, .int f_detail, .int f_isRefused, .ref q_steps, .ref q_goes, .int f_goesMany, .int f_roundSteps, .ref q_line, .int f_lineMany, .ref q_text, .int f_length, .int f_at, .int f_isWrong, .int f_errorAt, .ref q_orders, .int f_orderMany]))] := by
  refine z_wr_start (by decide) (Nat.le_of_ble_eq_true rfl) ?_
  intro p e s m args below meth c Q A X hr hQ hA
  refine z_lv (lv' := [(0, .ref q_this), (1, .int p1)]) rfl ?_
  have H13 : ∀ (t0 : Int32) (f_thrown : Int32), J_X12_refusal_13 p1 f_reason f_detail t0 f_thrown = some o → Z p l e { frames := 0, cells := 0, slots := 0, locals := 0 } s m args below meth c Q 2 0 0 (IW D A s [(q_this, .inr (12, [.ref q_s, .ref q_before, .ref q_saved, .int f_isSaved, .ref q_past, .int f_pastMany, .int f_thrown, .int f_reason, .int f_detail, .int f_isRefused, .ref q_steps, .ref q_goes, .int f_goesMany, .int f_roundSteps, .ref q_line, .int f_lineMany, .ref q_text, .int f_length, .int f_at, .int f_isWrong, .int f_errorAt, .ref q_orders, .int f_orderMany]))]) 13 [(0, .ref q_this), (1, .int p1)] [.int t0, .ref q_this] := by
    intro t0 f_thrown h
    refine z_put (q0 := 0) (k := 6) (ci := 12) (ws' := [(q_this, .inr (12, [.ref q_s, .ref q_before, .ref q_saved, .int f_isSaved, .ref q_past, .int f_pastMany, .int t0, .int f_reason, .int f_detail, .int f_isRefused, .ref q_steps, .ref q_goes, .int f_goesMany, .int f_roundSteps, .ref q_line, .int f_lineMany, .ref q_text, .int f_length, .int f_at, .int f_isWrong, .int f_errorAt, .ref q_orders, .int f_orderMany]))]) X iw_X12 tyX12_ok nmX12 rfl qf_X12_X12_thrown (by decide) rfl rfl dX12_refusal_13 rfl rfl rfl (Nat.le_of_ble_eq_true rfl) rfl ?_
    refine z_aload_n X 0 dX12_refusal_16 rfl rfl ?_
    refine z_get (q0 := 0) (k := 6) (ci := 12) X IW_P iw_X12 rfl qf_X12_X12_thrown (by decide) dX12_refusal_17 rfl rfl ?_
    refine z_if_le X 27 dX12_refusal_20 (by decide) h (fun _ h => ?_) (fun _ h => ?_)
    · refine z_iload_n X 1 dX12_refusal_27 rfl rfl ?_
      refine z_if_eq X 38 dX12_refusal_28 (by decide) h (fun _ h => ?_) (fun _ h => ?_)
      · refine z_aload_n X 0 dX12_refusal_38 rfl rfl ?_
        refine z_get (q0 := 0) (k := 7) (ci := 12) X IW_P iw_X12 rfl qf_X12_X12_reason (by decide) dX12_refusal_39 rfl rfl ?_
        cases h
        exact z_iretW X hQ hA hr dX12_refusal_42
      · refine z_aload_n X 0 dX12_refusal_31 rfl rfl ?_
        refine z_get (q0 := 0) (k := 8) (ci := 12) X IW_P iw_X12 rfl qf_X12_X12_detail (by decide) dX12_refusal_32 rfl rfl ?_
        refine z_goto X 42 dX12_refusal_35 (by decide) ?_
        cases h
        exact z_iretW X hQ hA hr dX12_refusal_42
    · refine z_iconst X (0 : Int32) dX12_refusal_23 (by decide) ?_
      refine z_goto X 42 dX12_refusal_24 (by decide) ?_
      cases h
      exact z_iretW X hQ hA hr dX12_refusal_42
  refine z_aload_n X 0 dX12_refusal_0 rfl rfl ?_
  refine z_aload_n X 0 dX12_refusal_1 rfl rfl ?_
  refine z_get (q0 := 0) (k := 7) (ci := 12) X IW_P iw_X12 rfl qf_X12_X12_reason (by decide) dX12_refusal_2 rfl rfl ?_
  refine z_if_ne X 12 dX12_refusal_5 (by decide) h (fun _ h => ?_) (fun _ h => ?_)
  · refine z_iconst X (1 : Int32) dX12_refusal_8 (by decide) ?_
    refine z_goto X 13 dX12_refusal_9 (by decide) ?_
    exact H13 (1 : Int32) f_thrown h
  · refine z_iconst X (0 : Int32) dX12_refusal_12 (by decide) ?_
    exact H13 (0 : Int32) f_thrown h

def F_X12_isCell (p0 : Int32) : Option (Int32) :=
  bnd (F_X12_in p0 (0 : Int32) (63 : Int32)) (fun o1 => grd (o1 = 0 ∨ o1 = 1) (some (o1)))
theorem dX12_isCell_0 : decode cX12_isCell 0 = .ok (.iload_n 0, 1) := by decide +kernel
theorem dX12_isCell_1 : decode cX12_isCell 1 = .ok (.iconst 0, 1) := by decide +kernel
theorem dX12_isCell_2 : decode cX12_isCell 2 = .ok (.bipush 63, 2) := by decide +kernel
theorem dX12_isCell_4 : decode cX12_isCell 4 = .ok (.invokestatic 64, 3) := by decide +kernel
theorem dX12_isCell_7 : decode cX12_isCell 7 = .ok (.ireturn, 1) := by decide +kernel
theorem k_X12_isCell : cardS yX12_isCell (Cond.code yX12_isCell cX12_isCell 1 (some .boolean)) 1 := ⟨qs_X12_isCell, qc_X12_isCell, qn_X12, by decide +kernel, by decide +kernel, by decide +kernel⟩
set_option maxHeartbeats 4000000 in
set_option maxRecDepth 100000 in
theorem c_X12_isCell (l : Launch) (D : va_G) (g : Nat → ClassId) (p0 : Int32) (o : Int32) (h : F_X12_isCell p0 = some o) : MR l yX12_isCell (Cond.code yX12_isCell cX12_isCell 1 (some .boolean)) { frames := 1, cells := 0, slots := 0, locals := 22 } D g [.int p0] [] (some (.int o)) := by
  refine z_rd_start (by decide) (Nat.le_of_ble_eq_true rfl) ?_
  intro p e s m args below meth c Q X hr hQ
  refine z_lv (lv' := [(0, .int p0)]) rfl ?_
  refine z_iload_n X 0 dX12_isCell_0 rfl rfl ?_
  refine z_iconst X (0 : Int32) dX12_isCell_1 (by decide) ?_
  refine z_bipush X (63 : Int32) dX12_isCell_2 (by decide) ?_
  obtain ⟨o1, e2, h⟩ := bnd_p h
  refine z_rdS (rest := []) X IR_P k_X12_in (c_X12_in l D g p0 (0 : Int32) (63 : Int32) o1 e2) ql_X12_X12_in dX12_isCell_4 [] rfl rfl rfl ⟨Nat.le_of_ble_eq_true rfl, Nat.le_of_ble_eq_true rfl, rfl, rfl, Nat.le_of_ble_eq_true rfl, Nat.le_of_ble_eq_true rfl⟩ (Nat.le_of_ble_eq_true rfl) ?_
  obtain ⟨e3, h⟩ := grd_p h
  exact z_zretR X hQ hr dX12_isCell_7 (nar_bool e3) h

def F_X12_isHour (p0 : Int32) : Option (Int32) :=
  bnd (F_X12_in p0 (0 : Int32) (23 : Int32)) (fun o1 => grd (o1 = 0 ∨ o1 = 1) (some (o1)))
theorem dX12_isHour_0 : decode cX12_isHour 0 = .ok (.iload_n 0, 1) := by decide +kernel
theorem dX12_isHour_1 : decode cX12_isHour 1 = .ok (.iconst 0, 1) := by decide +kernel
theorem dX12_isHour_2 : decode cX12_isHour 2 = .ok (.bipush 23, 2) := by decide +kernel
theorem dX12_isHour_4 : decode cX12_isHour 4 = .ok (.invokestatic 64, 3) := by decide +kernel
theorem dX12_isHour_7 : decode cX12_isHour 7 = .ok (.ireturn, 1) := by decide +kernel
theorem k_X12_isHour : cardS yX12_isHour (Cond.code yX12_isHour cX12_isHour 1 (some .boolean)) 1 := ⟨qs_X12_isHour, qc_X12_isHour, qn_X12, by decide +kernel, by decide +kernel, by decide +kernel⟩
set_option maxHeartbeats 4000000 in
set_option maxRecDepth 100000 in
theorem c_X12_isHour (l : Launch) (D : va_G) (g : Nat → ClassId) (p0 : Int32) (o : Int32) (h : F_X12_isHour p0 = some o) : MR l yX12_isHour (Cond.code yX12_isHour cX12_isHour 1 (some .boolean)) { frames := 1, cells := 0, slots := 0, locals := 22 } D g [.int p0] [] (some (.int o)) := by
  refine z_rd_start (by decide) (Nat.le_of_ble_eq_true rfl) ?_
  intro p e s m args below meth c Q X hr hQ
  refine z_lv (lv' := [(0, .int p0)]) rfl ?_
  refine z_iload_n X 0 dX12_isHour_0 rfl rfl ?_
  refine z_iconst X (0 : Int32) dX12_isHour_1 (by decide) ?_
  refine z_bipush X (23 : Int32) dX12_isHour_2 (by decide) ?_
  obtain ⟨o1, e2, h⟩ := bnd_p h
  refine z_rdS (rest := []) X IR_P k_X12_in (c_X12_in l D g p0 (0 : Int32) (23 : Int32) o1 e2) ql_X12_X12_in dX12_isHour_4 [] rfl rfl rfl ⟨Nat.le_of_ble_eq_true rfl, Nat.le_of_ble_eq_true rfl, rfl, rfl, Nat.le_of_ble_eq_true rfl, Nat.le_of_ble_eq_true rfl⟩ (Nat.le_of_ble_eq_true rfl) ?_
  obtain ⟨e3, h⟩ := grd_p h
  exact z_zretR X hQ hr dX12_isHour_7 (nar_bool e3) h

def F_X12_isHouse (p1 : Int32) (a_s : Nat → Int32) : Option (Int32) :=
  grd (inb (2 : Int32) 147) (bnd (F_X12_in p1 (0 : Int32) ((a_s (2 : Int32).toNatClampNeg) - (1 : Int32))) (fun o1 => grd (o1 = 0 ∨ o1 = 1) (some (o1))))
theorem dX12_isHouse_0 : decode cX12_isHouse 0 = .ok (.iload_n 1, 1) := by decide +kernel
theorem dX12_isHouse_1 : decode cX12_isHouse 1 = .ok (.iconst 0, 1) := by decide +kernel
theorem dX12_isHouse_2 : decode cX12_isHouse 2 = .ok (.aload_n 0, 1) := by decide +kernel
theorem dX12_isHouse_3 : decode cX12_isHouse 3 = .ok (.getfield 9, 3) := by decide +kernel
theorem dX12_isHouse_6 : decode cX12_isHouse 6 = .ok (.iconst 2, 1) := by decide +kernel
theorem dX12_isHouse_7 : decode cX12_isHouse 7 = .ok (.iaload, 1) := by decide +kernel
theorem dX12_isHouse_8 : decode cX12_isHouse 8 = .ok (.iconst 1, 1) := by decide +kernel
theorem dX12_isHouse_9 : decode cX12_isHouse 9 = .ok (.isub, 1) := by decide +kernel
theorem dX12_isHouse_10 : decode cX12_isHouse 10 = .ok (.invokestatic 64, 3) := by decide +kernel
theorem dX12_isHouse_13 : decode cX12_isHouse 13 = .ok (.ireturn, 1) := by decide +kernel
theorem k_X12_isHouse : cardV yX12_isHouse (Cond.code yX12_isHouse cX12_isHouse 2 (some .boolean)) 1 := ⟨⟨qi_X12_isHouse, qv_X12_isHouse⟩, qc_X12_isHouse, qn_X12, by decide +kernel, by decide +kernel, by decide +kernel⟩
set_option maxHeartbeats 4000000 in
set_option maxRecDepth 100000 in
theorem c_X12_isHouse (l : Launch) (D : va_G) (g : Nat → ClassId) (q_this q_s q_before q_saved q_past q_steps q_goes q_line q_text q_orders : Nat) (p1 : Int32) (f_isSaved : Int32) (f_pastMany : Int32) (f_thrown : Int32) (f_reason : Int32) (f_detail : Int32) (f_isRefused : Int32) (f_goesMany : Int32) (f_roundSteps : Int32) (f_lineMany : Int32) (f_length : Int32) (f_at : Int32) (f_isWrong : Int32) (f_errorAt : Int32) (f_orderMany : Int32) (a_s : Nat → Int32) (o : Int32) (h : F_X12_isHouse p1 a_s = some o) : MR l yX12_isHouse (Cond.code yX12_isHouse cX12_isHouse 2 (some .boolean)) { frames := 1, cells := 0, slots := 0, locals := 22 } D g [.ref q_this, .int p1] [(q_this, .inr (12, [.ref q_s, .ref q_before, .ref q_saved, .int f_isSaved, .ref q_past, .int f_pastMany, .int f_thrown, .int f_reason, .int f_detail, .int f_isRefused, .ref q_steps, .ref q_goes, .int f_goesMany, .int f_roundSteps, .ref q_line, .int f_lineMany, .ref q_text, .int f_length, .int f_at, .int f_isWrong, .int f_errorAt, .ref q_orders, .int f_orderMany])), (q_s, .inl (g 0, 147, .inl a_s))] (some (.int o)) := by
  refine z_rd_start (by decide) (Nat.le_of_ble_eq_true rfl) ?_
  intro p e s m args below meth c Q X hr hQ
  refine z_lv (lv' := [(0, .ref q_this), (1, .int p1)]) rfl ?_
  refine z_iload_n X 1 dX12_isHouse_0 rfl rfl ?_
  refine z_iconst X (0 : Int32) dX12_isHouse_1 (by decide) ?_
  refine z_aload_n X 0 dX12_isHouse_2 rfl rfl ?_
  refine z_get (q0 := 0) (k := 0) (ci := 12) X IR_P iw_X12 rfl qf_X12_X12_s (by decide) dX12_isHouse_3 rfl rfl ?_
  refine z_iconst X (2 : Int32) dX12_isHouse_6 (by decide) ?_
  refine z_iald (q0 := 1) X IR_P dX12_isHouse_7 rfl h (fun h => ?_)
  refine z_iconst X (1 : Int32) dX12_isHouse_8 (by decide) ?_
  refine z_isub X dX12_isHouse_9 ?_
  obtain ⟨o1, e2, h⟩ := bnd_p h
  refine z_rdS (rest := []) X IR_P k_X12_in (c_X12_in l D g p1 (0 : Int32) ((a_s (2 : Int32).toNatClampNeg) - (1 : Int32)) o1 e2) ql_X12_X12_in dX12_isHouse_10 [] rfl rfl rfl ⟨Nat.le_of_ble_eq_true rfl, Nat.le_of_ble_eq_true rfl, rfl, rfl, Nat.le_of_ble_eq_true rfl, Nat.le_of_ble_eq_true rfl⟩ (Nat.le_of_ble_eq_true rfl) ?_
  obtain ⟨e3, h⟩ := grd_p h
  exact z_zretR X hQ hr dX12_isHouse_13 (nar_bool e3) h

def F_X12_isPost (p1 : Int32) (a_s : Nat → Int32) : Option (Int32) :=
  grd (inb (4 : Int32) 147) (bnd (F_X12_in p1 (0 : Int32) ((a_s (4 : Int32).toNatClampNeg) - (1 : Int32))) (fun o1 => grd (o1 = 0 ∨ o1 = 1) (some (o1))))
theorem dX12_isPost_0 : decode cX12_isPost 0 = .ok (.iload_n 1, 1) := by decide +kernel
theorem dX12_isPost_1 : decode cX12_isPost 1 = .ok (.iconst 0, 1) := by decide +kernel
theorem dX12_isPost_2 : decode cX12_isPost 2 = .ok (.aload_n 0, 1) := by decide +kernel
theorem dX12_isPost_3 : decode cX12_isPost 3 = .ok (.getfield 9, 3) := by decide +kernel
theorem dX12_isPost_6 : decode cX12_isPost 6 = .ok (.iconst 4, 1) := by decide +kernel
theorem dX12_isPost_7 : decode cX12_isPost 7 = .ok (.iaload, 1) := by decide +kernel
theorem dX12_isPost_8 : decode cX12_isPost 8 = .ok (.iconst 1, 1) := by decide +kernel
theorem dX12_isPost_9 : decode cX12_isPost 9 = .ok (.isub, 1) := by decide +kernel
theorem dX12_isPost_10 : decode cX12_isPost 10 = .ok (.invokestatic 64, 3) := by decide +kernel
theorem dX12_isPost_13 : decode cX12_isPost 13 = .ok (.ireturn, 1) := by decide +kernel
theorem k_X12_isPost : cardV yX12_isPost (Cond.code yX12_isPost cX12_isPost 2 (some .boolean)) 1 := ⟨⟨qi_X12_isPost, qv_X12_isPost⟩, qc_X12_isPost, qn_X12, by decide +kernel, by decide +kernel, by decide +kernel⟩
set_option maxHeartbeats 4000000 in
set_option maxRecDepth 100000 in
theorem c_X12_isPost (l : Launch) (D : va_G) (g : Nat → ClassId) (q_this q_s q_before q_saved q_past q_steps q_goes q_line q_text q_orders : Nat) (p1 : Int32) (f_isSaved : Int32) (f_pastMany : Int32) (f_thrown : Int32) (f_reason : Int32) (f_detail : Int32) (f_isRefused : Int32) (f_goesMany : Int32) (f_roundSteps : Int32) (f_lineMany : Int32) (f_length : Int32) (f_at : Int32) (f_isWrong : Int32) (f_errorAt : Int32) (f_orderMany : Int32) (a_s : Nat → Int32) (o : Int32) (h : F_X12_isPost p1 a_s = some o) : MR l yX12_isPost (Cond.code yX12_isPost cX12_isPost 2 (some .boolean)) { frames := 1, cells := 0, slots := 0, locals := 22 } D g [.ref q_this, .int p1] [(q_this, .inr (12, [.ref q_s, .ref q_before, .ref q_saved, .int f_isSaved, .ref q_past, .int f_pastMany, .int f_thrown, .int f_reason, .int f_detail, .int f_isRefused, .ref q_steps, .ref q_goes, .int f_goesMany, .int f_roundSteps, .ref q_line, .int f_lineMany, .ref q_text, .int f_length, .int f_at, .int f_isWrong, .int f_errorAt, .ref q_orders, .int f_orderMany])), (q_s, .inl (g 0, 147, .inl a_s))] (some (.int o)) := by
  refine z_rd_start (by decide) (Nat.le_of_ble_eq_true rfl) ?_
  intro p e s m args below meth c Q X hr hQ
  refine z_lv (lv' := [(0, .ref q_this), (1, .int p1)]) rfl ?_
  refine z_iload_n X 1 dX12_isPost_0 rfl rfl ?_
  refine z_iconst X (0 : Int32) dX12_isPost_1 (by decide) ?_
  refine z_aload_n X 0 dX12_isPost_2 rfl rfl ?_
  refine z_get (q0 := 0) (k := 0) (ci := 12) X IR_P iw_X12 rfl qf_X12_X12_s (by decide) dX12_isPost_3 rfl rfl ?_
  refine z_iconst X (4 : Int32) dX12_isPost_6 (by decide) ?_
  refine z_iald (q0 := 1) X IR_P dX12_isPost_7 rfl h (fun h => ?_)
  refine z_iconst X (1 : Int32) dX12_isPost_8 (by decide) ?_
  refine z_isub X dX12_isPost_9 ?_
  obtain ⟨o1, e2, h⟩ := bnd_p h
  refine z_rdS (rest := []) X IR_P k_X12_in (c_X12_in l D g p1 (0 : Int32) ((a_s (4 : Int32).toNatClampNeg) - (1 : Int32)) o1 e2) ql_X12_X12_in dX12_isPost_10 [] rfl rfl rfl ⟨Nat.le_of_ble_eq_true rfl, Nat.le_of_ble_eq_true rfl, rfl, rfl, Nat.le_of_ble_eq_true rfl, Nat.le_of_ble_eq_true rfl⟩ (Nat.le_of_ble_eq_true rfl) ?_
  obtain ⟨e3, h⟩ := grd_p h
  exact z_zretR X hQ hr dX12_isPost_13 (nar_bool e3) h

def F_X12_isBlocked (p1 : Int32) (a_s : Nat → Int32) : Option (Int32) :=
  grd (inb ((13 : Int32) + p1) 147) (brn ((a_s ((13 : Int32) + p1).toNatClampNeg) = (1 : Int32)) (some ((1 : Int32))) (some ((0 : Int32))))
theorem dX12_isBlocked_0 : decode cX12_isBlocked 0 = .ok (.aload_n 0, 1) := by decide +kernel
theorem dX12_isBlocked_1 : decode cX12_isBlocked 1 = .ok (.getfield 9, 3) := by decide +kernel
theorem dX12_isBlocked_4 : decode cX12_isBlocked 4 = .ok (.bipush 13, 2) := by decide +kernel
theorem dX12_isBlocked_6 : decode cX12_isBlocked 6 = .ok (.iload_n 1, 1) := by decide +kernel
theorem dX12_isBlocked_7 : decode cX12_isBlocked 7 = .ok (.iadd, 1) := by decide +kernel
theorem dX12_isBlocked_8 : decode cX12_isBlocked 8 = .ok (.iaload, 1) := by decide +kernel
theorem dX12_isBlocked_9 : decode cX12_isBlocked 9 = .ok (.iconst 1, 1) := by decide +kernel
theorem dX12_isBlocked_10 : decode cX12_isBlocked 10 = .ok (.if_icmp .ne 7, 3) := by decide +kernel
theorem dX12_isBlocked_13 : decode cX12_isBlocked 13 = .ok (.iconst 1, 1) := by decide +kernel
theorem dX12_isBlocked_14 : decode cX12_isBlocked 14 = .ok (.goto 4, 3) := by decide +kernel
theorem dX12_isBlocked_17 : decode cX12_isBlocked 17 = .ok (.iconst 0, 1) := by decide +kernel
theorem dX12_isBlocked_18 : decode cX12_isBlocked 18 = .ok (.ireturn, 1) := by decide +kernel
theorem k_X12_isBlocked : cardV yX12_isBlocked (Cond.code yX12_isBlocked cX12_isBlocked 2 (some .boolean)) 1 := ⟨⟨qi_X12_isBlocked, qv_X12_isBlocked⟩, qc_X12_isBlocked, qn_X12, by decide +kernel, by decide +kernel, by decide +kernel⟩
set_option maxHeartbeats 4000000 in
set_option maxRecDepth 100000 in
theorem c_X12_isBlocked (l : Launch) (D : va_G) (g : Nat → ClassId) (q_this q_s q_before q_saved q_past q_steps q_goes q_line q_text q_orders : Nat) (p1 : Int32) (f_isSaved : Int32) (f_pastMany : Int32) (f_thrown : Int32) (f_reason : Int32) (f_detail : Int32) (f_isRefused : Int32) (f_goesMany : Int32) (f_roundSteps : Int32) (f_lineMany : Int32) (f_length : Int32) (f_at : Int32) (f_isWrong : Int32) (f_errorAt : Int32) (f_orderMany : Int32) (a_s : Nat → Int32) (o : Int32) (h : F_X12_isBlocked p1 a_s = some o) : MR l yX12_isBlocked (Cond.code yX12_isBlocked cX12_isBlocked 2 (some .boolean)) { frames := 0, cells := 0, slots := 0, locals := 0 } D g [.ref q_this, .int p1] [(q_this, .inr (12, [.ref q_s, .ref q_before, .ref q_saved, .int f_isSaved, .ref q_past, .int f_pastMany, .int f_thrown, .int f_reason, .int f_detail, .int f_isRefused, .ref q_steps, .ref q_goes, .int f_goesMany, .int f_roundSteps, .ref q_line, .int f_lineMany, .ref q_text, .int f_length, .int f_at, .int f_isWrong, .int f_errorAt, .ref q_orders, .int f_orderMany])), (q_s, .inl (g 0, 147, .inl a_s))] (some (.int o)) := by
  refine z_rd_start (by decide) (Nat.le_of_ble_eq_true rfl) ?_
  intro p e s m args below meth c Q X hr hQ
  refine z_lv (lv' := [(0, .ref q_this), (1, .int p1)]) rfl ?_
  refine z_aload_n X 0 dX12_isBlocked_0 rfl rfl ?_
  refine z_get (q0 := 0) (k := 0) (ci := 12) X IR_P iw_X12 rfl qf_X12_X12_s (by decide) dX12_isBlocked_1 rfl rfl ?_
  refine z_bipush X (13 : Int32) dX12_isBlocked_4 (by decide) ?_
  refine z_iload_n X 1 dX12_isBlocked_6 rfl rfl ?_
  refine z_iadd X dX12_isBlocked_7 ?_
  refine z_iald (q0 := 1) X IR_P dX12_isBlocked_8 rfl h (fun h => ?_)
  refine z_iconst X (1 : Int32) dX12_isBlocked_9 (by decide) ?_
  refine z_icmp_ne X 17 dX12_isBlocked_10 (by decide) h (fun _ h => ?_) (fun _ h => ?_)
  · refine z_iconst X (1 : Int32) dX12_isBlocked_13 (by decide) ?_
    refine z_goto X 18 dX12_isBlocked_14 (by decide) ?_
    exact z_zretR X hQ hr dX12_isBlocked_18 rfl h
  · refine z_iconst X (0 : Int32) dX12_isBlocked_17 (by decide) ?_
    exact z_zretR X hQ hr dX12_isBlocked_18 rfl h

def F_X12_at (p0 : Int32) (p1 : Int32) : Option (Int32) :=
  some (((77 : Int32) + ((5 : Int32) * p0)) + p1)
theorem dX12_at_0 : decode cX12_at 0 = .ok (.bipush 77, 2) := by decide +kernel
theorem dX12_at_2 : decode cX12_at 2 = .ok (.iconst 5, 1) := by decide +kernel
theorem dX12_at_3 : decode cX12_at 3 = .ok (.iload_n 0, 1) := by decide +kernel
theorem dX12_at_4 : decode cX12_at 4 = .ok (.imul, 1) := by decide +kernel
theorem dX12_at_5 : decode cX12_at 5 = .ok (.iadd, 1) := by decide +kernel
theorem dX12_at_6 : decode cX12_at 6 = .ok (.iload_n 1, 1) := by decide +kernel
theorem dX12_at_7 : decode cX12_at 7 = .ok (.iadd, 1) := by decide +kernel
theorem dX12_at_8 : decode cX12_at 8 = .ok (.ireturn, 1) := by decide +kernel
theorem k_X12_at : cardS yX12_at (Cond.code yX12_at cX12_at 2 (some .int)) 2 := ⟨qs_X12_at, qc_X12_at, qn_X12, by decide +kernel, by decide +kernel, by decide +kernel⟩
set_option maxHeartbeats 4000000 in
set_option maxRecDepth 100000 in
theorem c_X12_at (l : Launch) (D : va_G) (g : Nat → ClassId) (p0 p1 : Int32) (o : Int32) (h : F_X12_at p0 p1 = some o) : MR l yX12_at (Cond.code yX12_at cX12_at 2 (some .int)) { frames := 0, cells := 0, slots := 0, locals := 0 } D g [.int p0, .int p1] [] (some (.int o)) := by
  refine z_rd_start (by decide) (Nat.le_of_ble_eq_true rfl) ?_
  intro p e s m args below meth c Q X hr hQ
  refine z_lv (lv' := [(0, .int p0), (1, .int p1)]) rfl ?_
  refine z_bipush X (77 : Int32) dX12_at_0 (by decide) ?_
  refine z_iconst X (5 : Int32) dX12_at_2 (by decide) ?_
  refine z_iload_n X 0 dX12_at_3 rfl rfl ?_
  refine z_imul X dX12_at_4 ?_
  refine z_iadd X dX12_at_5 ?_
  refine z_iload_n X 1 dX12_at_6 rfl rfl ?_
  refine z_iadd X dX12_at_7 ?_
  exact z_iretR X hQ hr dX12_at_8 h

def F_X12_cellOf (p1 : Int32) (a_s : Nat → Int32) : Option (Int32) :=
  bnd (F_X12_at p1 (0 : Int32)) (fun o1 => grd (inb o1 147) (some (a_s o1.toNatClampNeg)))
theorem dX12_cellOf_0 : decode cX12_cellOf 0 = .ok (.aload_n 0, 1) := by decide +kernel
theorem dX12_cellOf_1 : decode cX12_cellOf 1 = .ok (.getfield 9, 3) := by decide +kernel
theorem dX12_cellOf_4 : decode cX12_cellOf 4 = .ok (.iload_n 1, 1) := by decide +kernel
theorem dX12_cellOf_5 : decode cX12_cellOf 5 = .ok (.iconst 0, 1) := by decide +kernel
theorem dX12_cellOf_6 : decode cX12_cellOf 6 = .ok (.invokestatic 68, 3) := by decide +kernel
theorem dX12_cellOf_9 : decode cX12_cellOf 9 = .ok (.iaload, 1) := by decide +kernel
theorem dX12_cellOf_10 : decode cX12_cellOf 10 = .ok (.ireturn, 1) := by decide +kernel
theorem k_X12_cellOf : cardV yX12_cellOf (Cond.code yX12_cellOf cX12_cellOf 2 (some .int)) 1 := ⟨⟨qi_X12_cellOf, qv_X12_cellOf⟩, qc_X12_cellOf, qn_X12, by decide +kernel, by decide +kernel, by decide +kernel⟩
set_option maxHeartbeats 4000000 in
set_option maxRecDepth 100000 in
theorem c_X12_cellOf (l : Launch) (D : va_G) (g : Nat → ClassId) (q_this q_s q_before q_saved q_past q_steps q_goes q_line q_text q_orders : Nat) (p1 : Int32) (f_isSaved : Int32) (f_pastMany : Int32) (f_thrown : Int32) (f_reason : Int32) (f_detail : Int32) (f_isRefused : Int32) (f_goesMany : Int32) (f_roundSteps : Int32) (f_lineMany : Int32) (f_length : Int32) (f_at : Int32) (f_isWrong : Int32) (f_errorAt : Int32) (f_orderMany : Int32) (a_s : Nat → Int32) (o : Int32) (h : F_X12_cellOf p1 a_s = some o) : MR l yX12_cellOf (Cond.code yX12_cellOf cX12_cellOf 2 (some .int)) { frames := 1, cells := 0, slots := 0, locals := 21 } D g [.ref q_this, .int p1] [(q_this, .inr (12, [.ref q_s, .ref q_before, .ref q_saved, .int f_isSaved, .ref q_past, .int f_pastMany, .int f_thrown, .int f_reason, .int f_detail, .int f_isRefused, .ref q_steps, .ref q_goes, .int f_goesMany, .int f_roundSteps, .ref q_line, .int f_lineMany, .ref q_text, .int f_length, .int f_at, .int f_isWrong, .int f_errorAt, .ref q_orders, .int f_orderMany])), (q_s, .inl (g 0, 147, .inl a_s))] (some (.int o)) := by
  refine z_rd_start (by decide) (Nat.le_of_ble_eq_true rfl) ?_
  intro p e s m args below meth c Q X hr hQ
  refine z_lv (lv' := [(0, .ref q_this), (1, .int p1)]) rfl ?_
  refine z_aload_n X 0 dX12_cellOf_0 rfl rfl ?_
  refine z_get (q0 := 0) (k := 0) (ci := 12) X IR_P iw_X12 rfl qf_X12_X12_s (by decide) dX12_cellOf_1 rfl rfl ?_
  refine z_iload_n X 1 dX12_cellOf_4 rfl rfl ?_
  refine z_iconst X (0 : Int32) dX12_cellOf_5 (by decide) ?_
  obtain ⟨o1, e2, h⟩ := bnd_p h
  refine z_rdS (rest := [.ref q_s]) X IR_P k_X12_at (c_X12_at l D g p1 (0 : Int32) o1 e2) ql_X12_X12_at dX12_cellOf_6 [] rfl rfl rfl ⟨Nat.le_of_ble_eq_true rfl, Nat.le_of_ble_eq_true rfl, rfl, rfl, Nat.le_of_ble_eq_true rfl, Nat.le_of_ble_eq_true rfl⟩ (Nat.le_of_ble_eq_true rfl) ?_
  refine z_iald (q0 := 1) X IR_P dX12_cellOf_9 rfl h (fun h => ?_)
  exact z_iretR X hQ hr dX12_cellOf_10 h

def J_X12_houseOn_28 (p1 : Int32) (a_s : Nat → Int32) (r4 : Int32 → Int32 → Option (Int32)) (t0 : Int32) (x3 : Int32) : Option (Int32) :=
  r4 t0 (x3 + 1)

def L_X12_houseOn_4 (p1 : Int32) (a_s : Nat → Int32) : Nat → Int32 → Int32 → Option (Int32)
  | 0, _, _ => none
  | _n + 1, x2, x3 =>
    grd (inb (2 : Int32) 147) (brn ((a_s (2 : Int32).toNatClampNeg) ≤ x3) (some (x2)) (bnd (F_X12_cellOf x3 a_s) (fun o1 => brn (o1 = p1) (J_X12_houseOn_28 p1 a_s (L_X12_houseOn_4 p1 a_s _n) x3 x3) (J_X12_houseOn_28 p1 a_s (L_X12_houseOn_4 p1 a_s _n) x2 x3))))

def F_X12_houseOn (p1 : Int32) (a_s : Nat → Int32) : Option (Int32) :=
  L_X12_houseOn_4 p1 a_s 100 ((-1) : Int32) (0 : Int32)
theorem dX12_houseOn_0 : decode cX12_houseOn 0 = .ok (.iconst (-1), 1) := by decide +kernel
theorem dX12_houseOn_1 : decode cX12_houseOn 1 = .ok (.istore_n 2, 1) := by decide +kernel
theorem dX12_houseOn_2 : decode cX12_houseOn 2 = .ok (.iconst 0, 1) := by decide +kernel
theorem dX12_houseOn_3 : decode cX12_houseOn 3 = .ok (.istore_n 3, 1) := by decide +kernel
theorem dX12_houseOn_4 : decode cX12_houseOn 4 = .ok (.iload_n 3, 1) := by decide +kernel
theorem dX12_houseOn_5 : decode cX12_houseOn 5 = .ok (.aload_n 0, 1) := by decide +kernel
theorem dX12_houseOn_6 : decode cX12_houseOn 6 = .ok (.getfield 9, 3) := by decide +kernel
theorem dX12_houseOn_9 : decode cX12_houseOn 9 = .ok (.iconst 2, 1) := by decide +kernel
theorem dX12_houseOn_10 : decode cX12_houseOn 10 = .ok (.iaload, 1) := by decide +kernel
theorem dX12_houseOn_11 : decode cX12_houseOn 11 = .ok (.if_icmp .ge 24, 3) := by decide +kernel
theorem dX12_houseOn_14 : decode cX12_houseOn 14 = .ok (.aload_n 0, 1) := by decide +kernel
theorem dX12_houseOn_15 : decode cX12_houseOn 15 = .ok (.iload_n 3, 1) := by decide +kernel
theorem dX12_houseOn_16 : decode cX12_houseOn 16 = .ok (.invokevirtual 72, 3) := by decide +kernel
theorem dX12_houseOn_19 : decode cX12_houseOn 19 = .ok (.iload_n 1, 1) := by decide +kernel
theorem dX12_houseOn_20 : decode cX12_houseOn 20 = .ok (.if_icmp .ne 7, 3) := by decide +kernel
theorem dX12_houseOn_23 : decode cX12_houseOn 23 = .ok (.iload_n 3, 1) := by decide +kernel
theorem dX12_houseOn_24 : decode cX12_houseOn 24 = .ok (.goto 4, 3) := by decide +kernel
theorem dX12_houseOn_27 : decode cX12_houseOn 27 = .ok (.iload_n 2, 1) := by decide +kernel
theorem dX12_houseOn_28 : decode cX12_houseOn 28 = .ok (.istore_n 2, 1) := by decide +kernel
theorem dX12_houseOn_29 : decode cX12_houseOn 29 = .ok (.iinc 3 1, 3) := by decide +kernel
theorem dX12_houseOn_32 : decode cX12_houseOn 32 = .ok (.goto (-28), 3) := by decide +kernel
theorem dX12_houseOn_35 : decode cX12_houseOn 35 = .ok (.iload_n 2, 1) := by decide +kernel
theorem dX12_houseOn_36 : decode cX12_houseOn 36 = .ok (.ireturn, 1) := by decide +kernel
theorem k_X12_houseOn : cardV yX12_houseOn (Cond.code yX12_houseOn cX12_houseOn 4 (some .int)) 1 := ⟨⟨qi_X12_houseOn, qv_X12_houseOn⟩, qc_X12_houseOn, qn_X12, by decide +kernel, by decide +kernel, by decide +kernel⟩
set_option maxHeartbeats 4000000 in
set_option maxRecDepth 100000 in
theorem c_X12_houseOn (l : Launch) (D : va_G) (g : Nat → ClassId) (q_this q_s q_before q_saved q_past q_steps q_goes q_line q_text q_orders : Nat) (p1 : Int32) (f_isSaved : Int32) (f_pastMany : Int32) (f_thrown : Int32) (f_reason : Int32) (f_detail : Int32) (f_isRefused : Int32) (f_goesMany : Int32) (f_roundSteps : Int32) (f_lineMany : Int32) (f_length : Int32) (f_at : Int32) (f_isWrong : Int32) (f_errorAt : Int32) (f_orderMany : Int32) (a_s : Nat → Int32) (o : Int32) (h : F_X12_houseOn p1 a_s = some o) : MR l yX12_houseOn (Cond.code yX12_houseOn cX12_houseOn 4 (some .int)) { frames := 2, cells := 0, slots := 0, locals := 42 } D g [.ref q_this, .int p1] [(q_this, .inr (12, [.ref q_s, .ref q_before, .ref q_saved, .int f_isSaved, .ref q_past, .int f_pastMany, .int f_thrown, .int f_reason, .int f_detail, .int f_isRefused, .ref q_steps, .ref q_goes, .int f_goesMany, .int f_roundSteps, .ref q_line, .int f_lineMany, .ref q_text, .int f_length, .int f_at, .int f_isWrong, .int f_errorAt, .ref q_orders, .int f_orderMany])), (q_s, .inl (g 0, 147, .inl a_s))] (some (.int o)) := by
  refine z_rd_start (by decide) (Nat.le_of_ble_eq_true rfl) ?_
  intro p e s m args below meth c Q X hr hQ
  refine z_lv (lv' := [(0, .ref q_this), (1, .int p1)]) rfl ?_
  have H4 : ∀ (n : Nat) (x2 : Int32) (x3 : Int32), L_X12_houseOn_4 p1 a_s  n x2 x3 = some o → Z p l e { frames := 2, cells := 0, slots := 0, locals := 42 } s m args below meth c Q 4 0 0 (IR D [(q_this, .inr (12, [.ref q_s, .ref q_before, .ref q_saved, .int f_isSaved, .ref q_past, .int f_pastMany, .int f_thrown, .int f_reason, .int f_detail, .int f_isRefused, .ref q_steps, .ref q_goes, .int f_goesMany, .int f_roundSteps, .ref q_line, .int f_lineMany, .ref q_text, .int f_length, .int f_at, .int f_isWrong, .int f_errorAt, .ref q_orders, .int f_orderMany])), (q_s, .inl (g 0, 147, .inl a_s))] s) 4 [(0, .ref q_this), (1, .int p1), (2, .int x2), (3, .int x3)] [] := by
    intro n
    induction n with
    | zero => intro x2 x3 h; cases h
    | succ n4 ih4 =>
      intro x2 x3 h
      have H28 : ∀ (t0 : Int32) (x3 : Int32), J_X12_houseOn_28 p1 a_s (L_X12_houseOn_4 p1 a_s n4) t0 x3 = some o → Z p l e { frames := 2, cells := 0, slots := 0, locals := 42 } s m args below meth c Q 4 0 0 (IR D [(q_this, .inr (12, [.ref q_s, .ref q_before, .ref q_saved, .int f_isSaved, .ref q_past, .int f_pastMany, .int f_thrown, .int f_reason, .int f_detail, .int f_isRefused, .ref q_steps, .ref q_goes, .int f_goesMany, .int f_roundSteps, .ref q_line, .int f_lineMany, .ref q_text, .int f_length, .int f_at, .int f_isWrong, .int f_errorAt, .ref q_orders, .int f_orderMany])), (q_s, .inl (g 0, 147, .inl a_s))] s) 28 [(0, .ref q_this), (1, .int p1), (3, .int x3)] [.int t0] := by
        intro t0 x3 h
        refine z_istore_n X [(2, .int t0), (0, .ref q_this), (1, .int p1), (3, .int x3)] dX12_houseOn_28 rfl (by decide) rfl ?_
        refine z_iinc X 3 [(3, .int (x3 + 1)), (2, .int t0), (0, .ref q_this), (1, .int p1)] dX12_houseOn_29 rfl rfl (by decide) rfl ?_
        refine z_goto X 4 dX12_houseOn_32 (by decide) ?_
        refine z_sub (lv' := [(0, .ref q_this), (1, .int p1), (2, .int t0), (3, .int (x3 + 1))]) [2, 3, 1, 0] rfl ?_
        exact ih4 t0 (x3 + 1) h
      refine z_iload_n X 3 dX12_houseOn_4 rfl rfl ?_
      refine z_aload_n X 0 dX12_houseOn_5 rfl rfl ?_
      refine z_get (q0 := 0) (k := 0) (ci := 12) X IR_P iw_X12 rfl qf_X12_X12_s (by decide) dX12_houseOn_6 rfl rfl ?_
      refine z_iconst X (2 : Int32) dX12_houseOn_9 (by decide) ?_
      refine z_iald (q0 := 1) X IR_P dX12_houseOn_10 rfl h (fun h => ?_)
      refine z_icmp_ge X 35 dX12_houseOn_11 (by decide) h (fun _ h => ?_) (fun _ h => ?_)
      · refine z_iload_n X 2 dX12_houseOn_35 rfl rfl ?_
        exact z_iretR X hQ hr dX12_houseOn_36 h
      · refine z_aload_n X 0 dX12_houseOn_14 rfl rfl ?_
        refine z_iload_n X 3 dX12_houseOn_15 rfl rfl ?_
        obtain ⟨o1, e2, h⟩ := bnd_p h
        refine z_rdV (rest := []) (q0 := 0) (ci := 12) X IR_P k_X12_cellOf (c_X12_cellOf l D g q_this q_s q_before q_saved q_past q_steps q_goes q_line q_text q_orders x3 f_isSaved f_pastMany f_thrown f_reason f_detail f_isRefused f_goesMany f_roundSteps f_lineMany f_length f_at f_isWrong f_errorAt f_orderMany a_s o1 e2) ql_X12_X12_cellOf dX12_houseOn_16 [0, 1] rfl rfl rfl rfl rfl rfl ⟨Nat.le_of_ble_eq_true rfl, Nat.le_of_ble_eq_true rfl, rfl, rfl, Nat.le_of_ble_eq_true rfl, Nat.le_of_ble_eq_true rfl⟩ (Nat.le_of_ble_eq_true rfl) ?_
        refine z_iload_n X 1 dX12_houseOn_19 rfl rfl ?_
        refine z_icmp_ne X 27 dX12_houseOn_20 (by decide) h (fun _ h => ?_) (fun _ h => ?_)
        · refine z_iload_n X 3 dX12_houseOn_23 rfl rfl ?_
          refine z_goto X 28 dX12_houseOn_24 (by decide) ?_
          refine z_sub (lv' := [(0, .ref q_this), (1, .int p1), (3, .int x3)]) [0, 1, 3] rfl ?_
          exact H28 x3 x3 h
        · refine z_iload_n X 2 dX12_houseOn_27 rfl rfl ?_
          refine z_sub (lv' := [(0, .ref q_this), (1, .int p1), (3, .int x3)]) [0, 1, 3] rfl ?_
          exact H28 x2 x3 h
  refine z_iconst X ((-1) : Int32) dX12_houseOn_0 (by decide) ?_
  refine z_istore_n X [(2, .int ((-1) : Int32)), (0, .ref q_this), (1, .int p1)] dX12_houseOn_1 rfl (by decide) rfl ?_
  refine z_iconst X (0 : Int32) dX12_houseOn_2 (by decide) ?_
  refine z_istore_n X [(3, .int (0 : Int32)), (2, .int ((-1) : Int32)), (0, .ref q_this), (1, .int p1)] dX12_houseOn_3 rfl (by decide) rfl ?_
  refine z_sub (lv' := [(0, .ref q_this), (1, .int p1), (2, .int ((-1) : Int32)), (3, .int (0 : Int32))]) [2, 3, 1, 0] rfl ?_
  exact H4 100 ((-1) : Int32) (0 : Int32) h

def J_X12_postOn_35 (p1 : Int32) (a_s : Nat → Int32) (r4 : Int32 → Int32 → Option (Int32)) (t0 : Int32) (x3 : Int32) : Option (Int32) :=
  r4 t0 (x3 + 1)

def L_X12_postOn_4 (p1 : Int32) (a_s : Nat → Int32) : Nat → Int32 → Int32 → Option (Int32)
  | 0, _, _ => none
  | _n + 1, x2, x3 =>
    grd (inb (4 : Int32) 147) (brn ((a_s (4 : Int32).toNatClampNeg) ≤ x3) (some (x2)) (grd (inb ((139 : Int32) + ((2 : Int32) * x3)) 147) (brn ((a_s ((139 : Int32) + ((2 : Int32) * x3)).toNatClampNeg) = p1) (J_X12_postOn_35 p1 a_s (L_X12_postOn_4 p1 a_s _n) x3 x3) (J_X12_postOn_35 p1 a_s (L_X12_postOn_4 p1 a_s _n) x2 x3))))

def F_X12_postOn (p1 : Int32) (a_s : Nat → Int32) : Option (Int32) :=
  L_X12_postOn_4 p1 a_s 100 ((-1) : Int32) (0 : Int32)
theorem dX12_postOn_0 : decode cX12_postOn 0 = .ok (.iconst (-1), 1) := by decide +kernel
theorem dX12_postOn_1 : decode cX12_postOn 1 = .ok (.istore_n 2, 1) := by decide +kernel
theorem dX12_postOn_2 : decode cX12_postOn 2 = .ok (.iconst 0, 1) := by decide +kernel
theorem dX12_postOn_3 : decode cX12_postOn 3 = .ok (.istore_n 3, 1) := by decide +kernel
theorem dX12_postOn_4 : decode cX12_postOn 4 = .ok (.iload_n 3, 1) := by decide +kernel
theorem dX12_postOn_5 : decode cX12_postOn 5 = .ok (.aload_n 0, 1) := by decide +kernel
theorem dX12_postOn_6 : decode cX12_postOn 6 = .ok (.getfield 9, 3) := by decide +kernel
theorem dX12_postOn_9 : decode cX12_postOn 9 = .ok (.iconst 4, 1) := by decide +kernel
theorem dX12_postOn_10 : decode cX12_postOn 10 = .ok (.iaload, 1) := by decide +kernel
theorem dX12_postOn_11 : decode cX12_postOn 11 = .ok (.if_icmp .ge 31, 3) := by decide +kernel
theorem dX12_postOn_14 : decode cX12_postOn 14 = .ok (.aload_n 0, 1) := by decide +kernel
theorem dX12_postOn_15 : decode cX12_postOn 15 = .ok (.getfield 9, 3) := by decide +kernel
theorem dX12_postOn_18 : decode cX12_postOn 18 = .ok (.sipush 139, 3) := by decide +kernel
theorem dX12_postOn_21 : decode cX12_postOn 21 = .ok (.iconst 2, 1) := by decide +kernel
theorem dX12_postOn_22 : decode cX12_postOn 22 = .ok (.iload_n 3, 1) := by decide +kernel
theorem dX12_postOn_23 : decode cX12_postOn 23 = .ok (.imul, 1) := by decide +kernel
theorem dX12_postOn_24 : decode cX12_postOn 24 = .ok (.iadd, 1) := by decide +kernel
theorem dX12_postOn_25 : decode cX12_postOn 25 = .ok (.iaload, 1) := by decide +kernel
theorem dX12_postOn_26 : decode cX12_postOn 26 = .ok (.iload_n 1, 1) := by decide +kernel
theorem dX12_postOn_27 : decode cX12_postOn 27 = .ok (.if_icmp .ne 7, 3) := by decide +kernel
theorem dX12_postOn_30 : decode cX12_postOn 30 = .ok (.iload_n 3, 1) := by decide +kernel
theorem dX12_postOn_31 : decode cX12_postOn 31 = .ok (.goto 4, 3) := by decide +kernel
theorem dX12_postOn_34 : decode cX12_postOn 34 = .ok (.iload_n 2, 1) := by decide +kernel
theorem dX12_postOn_35 : decode cX12_postOn 35 = .ok (.istore_n 2, 1) := by decide +kernel
theorem dX12_postOn_36 : decode cX12_postOn 36 = .ok (.iinc 3 1, 3) := by decide +kernel
theorem dX12_postOn_39 : decode cX12_postOn 39 = .ok (.goto (-35), 3) := by decide +kernel
theorem dX12_postOn_42 : decode cX12_postOn 42 = .ok (.iload_n 2, 1) := by decide +kernel
theorem dX12_postOn_43 : decode cX12_postOn 43 = .ok (.ireturn, 1) := by decide +kernel
theorem k_X12_postOn : cardV yX12_postOn (Cond.code yX12_postOn cX12_postOn 4 (some .int)) 1 := ⟨⟨qi_X12_postOn, qv_X12_postOn⟩, qc_X12_postOn, qn_X12, by decide +kernel, by decide +kernel, by decide +kernel⟩
set_option maxHeartbeats 4000000 in
set_option maxRecDepth 100000 in
theorem c_X12_postOn (l : Launch) (D : va_G) (g : Nat → ClassId) (q_this q_s q_before q_saved q_past q_steps q_goes q_line q_text q_orders : Nat) (p1 : Int32) (f_isSaved : Int32) (f_pastMany : Int32) (f_thrown : Int32) (f_reason : Int32) (f_detail : Int32) (f_isRefused : Int32) (f_goesMany : Int32) (f_roundSteps : Int32) (f_lineMany : Int32) (f_length : Int32) (f_at : Int32) (f_isWrong : Int32) (f_errorAt : Int32) (f_orderMany : Int32) (a_s : Nat → Int32) (o : Int32) (h : F_X12_postOn p1 a_s = some o) : MR l yX12_postOn (Cond.code yX12_postOn cX12_postOn 4 (some .int)) { frames := 0, cells := 0, slots := 0, locals := 0 } D g [.ref q_this, .int p1] [(q_this, .inr (12, [.ref q_s, .ref q_before, .ref q_saved, .int f_isSaved, .ref q_past, .int f_pastMany, .int f_thrown, .int f_reason, .int f_detail, .int f_isRefused, .ref q_steps, .ref q_goes, .int f_goesMany, .int f_roundSteps, .ref q_line, .int f_lineMany, .ref q_text, .int f_length, .int f_at, .int f_isWrong, .int f_errorAt, .ref q_orders, .int f_orderMany])), (q_s, .inl (g 0, 147, .inl a_s))] (some (.int o)) := by
  refine z_rd_start (by decide) (Nat.le_of_ble_eq_true rfl) ?_
  intro p e s m args below meth c Q X hr hQ
  refine z_lv (lv' := [(0, .ref q_this), (1, .int p1)]) rfl ?_
  have H4 : ∀ (n : Nat) (x2 : Int32) (x3 : Int32), L_X12_postOn_4 p1 a_s  n x2 x3 = some o → Z p l e { frames := 0, cells := 0, slots := 0, locals := 0 } s m args below meth c Q 4 0 0 (IR D [(q_this, .inr (12, [.ref q_s, .ref q_before, .ref q_saved, .int f_isSaved, .ref q_past, .int f_pastMany, .int f_thrown, .int f_reason, .int f_detail, .int f_isRefused, .ref q_steps, .ref q_goes, .int f_goesMany, .int f_roundSteps, .ref q_line, .int f_lineMany, .ref q_text, .int f_length, .int f_at, .int f_isWrong, .int f_errorAt, .ref q_orders, .int f_orderMany])), (q_s, .inl (g 0, 147, .inl a_s))] s) 4 [(0, .ref q_this), (1, .int p1), (2, .int x2), (3, .int x3)] [] := by
    intro n
    induction n with
    | zero => intro x2 x3 h; cases h
    | succ n4 ih4 =>
      intro x2 x3 h
      have H35 : ∀ (t0 : Int32) (x3 : Int32), J_X12_postOn_35 p1 a_s (L_X12_postOn_4 p1 a_s n4) t0 x3 = some o → Z p l e { frames := 0, cells := 0, slots := 0, locals := 0 } s m args below meth c Q 4 0 0 (IR D [(q_this, .inr (12, [.ref q_s, .ref q_before, .ref q_saved, .int f_isSaved, .ref q_past, .int f_pastMany, .int f_thrown, .int f_reason, .int f_detail, .int f_isRefused, .ref q_steps, .ref q_goes, .int f_goesMany, .int f_roundSteps, .ref q_line, .int f_lineMany, .ref q_text, .int f_length, .int f_at, .int f_isWrong, .int f_errorAt, .ref q_orders, .int f_orderMany])), (q_s, .inl (g 0, 147, .inl a_s))] s) 35 [(0, .ref q_this), (1, .int p1), (3, .int x3)] [.int t0] := by
        intro t0 x3 h
        refine z_istore_n X [(2, .int t0), (0, .ref q_this), (1, .int p1), (3, .int x3)] dX12_postOn_35 rfl (by decide) rfl ?_
        refine z_iinc X 3 [(3, .int (x3 + 1)), (2, .int t0), (0, .ref q_this), (1, .int p1)] dX12_postOn_36 rfl rfl (by decide) rfl ?_
        refine z_goto X 4 dX12_postOn_39 (by decide) ?_
        refine z_sub (lv' := [(0, .ref q_this), (1, .int p1), (2, .int t0), (3, .int (x3 + 1))]) [2, 3, 1, 0] rfl ?_
        exact ih4 t0 (x3 + 1) h
      refine z_iload_n X 3 dX12_postOn_4 rfl rfl ?_
      refine z_aload_n X 0 dX12_postOn_5 rfl rfl ?_
      refine z_get (q0 := 0) (k := 0) (ci := 12) X IR_P iw_X12 rfl qf_X12_X12_s (by decide) dX12_postOn_6 rfl rfl ?_
      refine z_iconst X (4 : Int32) dX12_postOn_9 (by decide) ?_
      refine z_iald (q0 := 1) X IR_P dX12_postOn_10 rfl h (fun h => ?_)
      refine z_icmp_ge X 42 dX12_postOn_11 (by decide) h (fun _ h => ?_) (fun _ h => ?_)
      · refine z_iload_n X 2 dX12_postOn_42 rfl rfl ?_
        exact z_iretR X hQ hr dX12_postOn_43 h
      · refine z_aload_n X 0 dX12_postOn_14 rfl rfl ?_
        refine z_get (q0 := 0) (k := 0) (ci := 12) X IR_P iw_X12 rfl qf_X12_X12_s (by decide) dX12_postOn_15 rfl rfl ?_
        refine z_sipush X (139 : Int32) dX12_postOn_18 (by decide) ?_
        refine z_iconst X (2 : Int32) dX12_postOn_21 (by decide) ?_
        refine z_iload_n X 3 dX12_postOn_22 rfl rfl ?_
        refine z_imul X dX12_postOn_23 ?_
        refine z_iadd X dX12_postOn_24 ?_
        refine z_iald (q0 := 1) X IR_P dX12_postOn_25 rfl h (fun h => ?_)
        refine z_iload_n X 1 dX12_postOn_26 rfl rfl ?_
        refine z_icmp_ne X 34 dX12_postOn_27 (by decide) h (fun _ h => ?_) (fun _ h => ?_)
        · refine z_iload_n X 3 dX12_postOn_30 rfl rfl ?_
          refine z_goto X 35 dX12_postOn_31 (by decide) ?_
          refine z_sub (lv' := [(0, .ref q_this), (1, .int p1), (3, .int x3)]) [0, 1, 3] rfl ?_
          exact H35 x3 x3 h
        · refine z_iload_n X 2 dX12_postOn_34 rfl rfl ?_
          refine z_sub (lv' := [(0, .ref q_this), (1, .int p1), (3, .int x3)]) [0, 1, 3] rfl ?_
          exact H35 x2 x3 h
  refine z_iconst X ((-1) : Int32) dX12_postOn_0 (by decide) ?_
  refine z_istore_n X [(2, .int ((-1) : Int32)), (0, .ref q_this), (1, .int p1)] dX12_postOn_1 rfl (by decide) rfl ?_
  refine z_iconst X (0 : Int32) dX12_postOn_2 (by decide) ?_
  refine z_istore_n X [(3, .int (0 : Int32)), (2, .int ((-1) : Int32)), (0, .ref q_this), (1, .int p1)] dX12_postOn_3 rfl (by decide) rfl ?_
  refine z_sub (lv' := [(0, .ref q_this), (1, .int p1), (2, .int ((-1) : Int32)), (3, .int (0 : Int32))]) [2, 3, 1, 0] rfl ?_
  exact H4 100 ((-1) : Int32) (0 : Int32) h

def J_X12_hallOn_69 (p1 : Int32) (a_s : Nat → Int32) (r4 : Int32 → Int32 → Option (Int32)) (t0 : Int32) (x3 : Int32) : Option (Int32) :=
  r4 t0 (x3 + 1)

def J_X12_hallOn_68 (p1 : Int32) (a_s : Nat → Int32) (r4 : Int32 → Int32 → Option (Int32)) (x2 : Int32) (x3 : Int32) : Option (Int32) :=
  J_X12_hallOn_69 p1 a_s (r4) x2 x3

def L_X12_hallOn_4 (p1 : Int32) (a_s : Nat → Int32) : Nat → Int32 → Int32 → Option (Int32)
  | 0, _, _ => none
  | _n + 1, x2, x3 =>
    grd (inb (3 : Int32) 147) (brn ((a_s (3 : Int32).toNatClampNeg) ≤ x3) (some (x2)) (grd (inb ((127 : Int32) + ((3 : Int32) * x3)) 147) (brn ((p1 / (8 : Int32)) = (a_s ((127 : Int32) + ((3 : Int32) * x3)).toNatClampNeg)) (grd (inb (((127 : Int32) + ((3 : Int32) * x3)) + (1 : Int32)) 147) (grd (inb (((127 : Int32) + ((3 : Int32) * x3)) + (2 : Int32)) 147) (bnd (F_X12_in (p1 - p1 / (8 : Int32) * (8 : Int32)) (a_s (((127 : Int32) + ((3 : Int32) * x3)) + (1 : Int32)).toNatClampNeg) (a_s (((127 : Int32) + ((3 : Int32) * x3)) + (2 : Int32)).toNatClampNeg)) (fun o1 => brn (o1 = 0) (J_X12_hallOn_68 p1 a_s (L_X12_hallOn_4 p1 a_s _n) x2 x3) (J_X12_hallOn_69 p1 a_s (L_X12_hallOn_4 p1 a_s _n) x3 x3))))) (J_X12_hallOn_68 p1 a_s (L_X12_hallOn_4 p1 a_s _n) x2 x3))))

def F_X12_hallOn (p1 : Int32) (a_s : Nat → Int32) : Option (Int32) :=
  L_X12_hallOn_4 p1 a_s 100 ((-1) : Int32) (0 : Int32)
theorem dX12_hallOn_0 : decode cX12_hallOn 0 = .ok (.iconst (-1), 1) := by decide +kernel
theorem dX12_hallOn_1 : decode cX12_hallOn 1 = .ok (.istore_n 2, 1) := by decide +kernel
theorem dX12_hallOn_2 : decode cX12_hallOn 2 = .ok (.iconst 0, 1) := by decide +kernel
theorem dX12_hallOn_3 : decode cX12_hallOn 3 = .ok (.istore_n 3, 1) := by decide +kernel
theorem dX12_hallOn_4 : decode cX12_hallOn 4 = .ok (.iload_n 3, 1) := by decide +kernel
theorem dX12_hallOn_5 : decode cX12_hallOn 5 = .ok (.aload_n 0, 1) := by decide +kernel
theorem dX12_hallOn_6 : decode cX12_hallOn 6 = .ok (.getfield 9, 3) := by decide +kernel
theorem dX12_hallOn_9 : decode cX12_hallOn 9 = .ok (.iconst 3, 1) := by decide +kernel
theorem dX12_hallOn_10 : decode cX12_hallOn 10 = .ok (.iaload, 1) := by decide +kernel
theorem dX12_hallOn_11 : decode cX12_hallOn 11 = .ok (.if_icmp .ge 65, 3) := by decide +kernel
theorem dX12_hallOn_14 : decode cX12_hallOn 14 = .ok (.bipush 127, 2) := by decide +kernel
theorem dX12_hallOn_16 : decode cX12_hallOn 16 = .ok (.iconst 3, 1) := by decide +kernel
theorem dX12_hallOn_17 : decode cX12_hallOn 17 = .ok (.iload_n 3, 1) := by decide +kernel
theorem dX12_hallOn_18 : decode cX12_hallOn 18 = .ok (.imul, 1) := by decide +kernel
theorem dX12_hallOn_19 : decode cX12_hallOn 19 = .ok (.iadd, 1) := by decide +kernel
theorem dX12_hallOn_20 : decode cX12_hallOn 20 = .ok (.istore 4, 2) := by decide +kernel
theorem dX12_hallOn_22 : decode cX12_hallOn 22 = .ok (.iload_n 1, 1) := by decide +kernel
theorem dX12_hallOn_23 : decode cX12_hallOn 23 = .ok (.bipush 8, 2) := by decide +kernel
theorem dX12_hallOn_25 : decode cX12_hallOn 25 = .ok (.idiv, 1) := by decide +kernel
theorem dX12_hallOn_26 : decode cX12_hallOn 26 = .ok (.aload_n 0, 1) := by decide +kernel
theorem dX12_hallOn_27 : decode cX12_hallOn 27 = .ok (.getfield 9, 3) := by decide +kernel
theorem dX12_hallOn_30 : decode cX12_hallOn 30 = .ok (.iload 4, 2) := by decide +kernel
theorem dX12_hallOn_32 : decode cX12_hallOn 32 = .ok (.iaload, 1) := by decide +kernel
theorem dX12_hallOn_33 : decode cX12_hallOn 33 = .ok (.if_icmp .ne 35, 3) := by decide +kernel
theorem dX12_hallOn_36 : decode cX12_hallOn 36 = .ok (.iload_n 1, 1) := by decide +kernel
theorem dX12_hallOn_37 : decode cX12_hallOn 37 = .ok (.bipush 8, 2) := by decide +kernel
theorem dX12_hallOn_39 : decode cX12_hallOn 39 = .ok (.irem, 1) := by decide +kernel
theorem dX12_hallOn_40 : decode cX12_hallOn 40 = .ok (.aload_n 0, 1) := by decide +kernel
theorem dX12_hallOn_41 : decode cX12_hallOn 41 = .ok (.getfield 9, 3) := by decide +kernel
theorem dX12_hallOn_44 : decode cX12_hallOn 44 = .ok (.iload 4, 2) := by decide +kernel
theorem dX12_hallOn_46 : decode cX12_hallOn 46 = .ok (.iconst 1, 1) := by decide +kernel
theorem dX12_hallOn_47 : decode cX12_hallOn 47 = .ok (.iadd, 1) := by decide +kernel
theorem dX12_hallOn_48 : decode cX12_hallOn 48 = .ok (.iaload, 1) := by decide +kernel
theorem dX12_hallOn_49 : decode cX12_hallOn 49 = .ok (.aload_n 0, 1) := by decide +kernel
theorem dX12_hallOn_50 : decode cX12_hallOn 50 = .ok (.getfield 9, 3) := by decide +kernel
theorem dX12_hallOn_53 : decode cX12_hallOn 53 = .ok (.iload 4, 2) := by decide +kernel
theorem dX12_hallOn_55 : decode cX12_hallOn 55 = .ok (.iconst 2, 1) := by decide +kernel
theorem dX12_hallOn_56 : decode cX12_hallOn 56 = .ok (.iadd, 1) := by decide +kernel
theorem dX12_hallOn_57 : decode cX12_hallOn 57 = .ok (.iaload, 1) := by decide +kernel
theorem dX12_hallOn_58 : decode cX12_hallOn 58 = .ok (.invokestatic 64, 3) := by decide +kernel
theorem dX12_hallOn_61 : decode cX12_hallOn 61 = .ok (.ifCond .eq 7, 3) := by decide +kernel
theorem dX12_hallOn_64 : decode cX12_hallOn 64 = .ok (.iload_n 3, 1) := by decide +kernel
theorem dX12_hallOn_65 : decode cX12_hallOn 65 = .ok (.goto 4, 3) := by decide +kernel
theorem dX12_hallOn_68 : decode cX12_hallOn 68 = .ok (.iload_n 2, 1) := by decide +kernel
theorem dX12_hallOn_69 : decode cX12_hallOn 69 = .ok (.istore_n 2, 1) := by decide +kernel
theorem dX12_hallOn_70 : decode cX12_hallOn 70 = .ok (.iinc 3 1, 3) := by decide +kernel
theorem dX12_hallOn_73 : decode cX12_hallOn 73 = .ok (.goto (-69), 3) := by decide +kernel
theorem dX12_hallOn_76 : decode cX12_hallOn 76 = .ok (.iload_n 2, 1) := by decide +kernel
theorem dX12_hallOn_77 : decode cX12_hallOn 77 = .ok (.ireturn, 1) := by decide +kernel
theorem k_X12_hallOn : cardV yX12_hallOn (Cond.code yX12_hallOn cX12_hallOn 5 (some .int)) 1 := ⟨⟨qi_X12_hallOn, qv_X12_hallOn⟩, qc_X12_hallOn, qn_X12, by decide +kernel, by decide +kernel, by decide +kernel⟩
set_option maxHeartbeats 4000000 in
set_option maxRecDepth 100000 in
theorem c_X12_hallOn (l : Launch) (D : va_G) (g : Nat → ClassId) (q_this q_s q_before q_saved q_past q_steps q_goes q_line q_text q_orders : Nat) (p1 : Int32) (f_isSaved : Int32) (f_pastMany : Int32) (f_thrown : Int32) (f_reason : Int32) (f_detail : Int32) (f_isRefused : Int32) (f_goesMany : Int32) (f_roundSteps : Int32) (f_lineMany : Int32) (f_length : Int32) (f_at : Int32) (f_isWrong : Int32) (f_errorAt : Int32) (f_orderMany : Int32) (a_s : Nat → Int32) (o : Int32) (h : F_X12_hallOn p1 a_s = some o) : MR l yX12_hallOn (Cond.code yX12_hallOn cX12_hallOn 5 (some .int)) { frames := 1, cells := 0, slots := 0, locals := 22 } D g [.ref q_this, .int p1] [(q_this, .inr (12, [.ref q_s, .ref q_before, .ref q_saved, .int f_isSaved, .ref q_past, .int f_pastMany, .int f_thrown, .int f_reason, .int f_detail, .int f_isRefused, .ref q_steps, .ref q_goes, .int f_goesMany, .int f_roundSteps, .ref q_line, .int f_lineMany, .ref q_text, .int f_length, .int f_at, .int f_isWrong, .int f_errorAt, .ref q_orders, .int f_orderMany])), (q_s, .inl (g 0, 147, .inl a_s))] (some (.int o)) := by
  refine z_rd_start (by decide) (Nat.le_of_ble_eq_true rfl) ?_
  intro p e s m args below meth c Q X hr hQ
  refine z_lv (lv' := [(0, .ref q_this), (1, .int p1)]) rfl ?_
  have H4 : ∀ (n : Nat) (x2 : Int32) (x3 : Int32), L_X12_hallOn_4 p1 a_s  n x2 x3 = some o → Z p l e { frames := 1, cells := 0, slots := 0, locals := 22 } s m args below meth c Q 5 0 0 (IR D [(q_this, .inr (12, [.ref q_s, .ref q_before, .ref q_saved, .int f_isSaved, .ref q_past, .int f_pastMany, .int f_thrown, .int f_reason, .int f_detail, .int f_isRefused, .ref q_steps, .ref q_goes, .int f_goesMany, .int f_roundSteps, .ref q_line, .int f_lineMany, .ref q_text, .int f_length, .int f_at, .int f_isWrong, .int f_errorAt, .ref q_orders, .int f_orderMany])), (q_s, .inl (g 0, 147, .inl a_s))] s) 4 [(0, .ref q_this), (1, .int p1), (2, .int x2), (3, .int x3)] [] := by
    intro n
    induction n with
    | zero => intro x2 x3 h; cases h
    | succ n4 ih4 =>
      intro x2 x3 h
      have H69 : ∀ (t0 : Int32) (x3 : Int32), J_X12_hallOn_69 p1 a_s (L_X12_hallOn_4 p1 a_s n4) t0 x3 = some o → Z p l e { frames := 1, cells := 0, slots := 0, locals := 22 } s m args below meth c Q 5 0 0 (IR D [(q_this, .inr (12, [.ref q_s, .ref q_before, .ref q_saved, .int f_isSaved, .ref q_past, .int f_pastMany, .int f_thrown, .int f_reason, .int f_detail, .int f_isRefused, .ref q_steps, .ref q_goes, .int f_goesMany, .int f_roundSteps, .ref q_line, .int f_lineMany, .ref q_text, .int f_length, .int f_at, .int f_isWrong, .int f_errorAt, .ref q_orders, .int f_orderMany])), (q_s, .inl (g 0, 147, .inl a_s))] s) 69 [(0, .ref q_this), (1, .int p1), (3, .int x3)] [.int t0] := by
        intro t0 x3 h
        refine z_istore_n X [(2, .int t0), (0, .ref q_this), (1, .int p1), (3, .int x3)] dX12_hallOn_69 rfl (by decide) rfl ?_
        refine z_iinc X 3 [(3, .int (x3 + 1)), (2, .int t0), (0, .ref q_this), (1, .int p1)] dX12_hallOn_70 rfl rfl (by decide) rfl ?_
        refine z_goto X 4 dX12_hallOn_73 (by decide) ?_
        refine z_sub (lv' := [(0, .ref q_this), (1, .int p1), (2, .int t0), (3, .int (x3 + 1))]) [2, 3, 1, 0] rfl ?_
        exact ih4 t0 (x3 + 1) h
      have H68 : ∀ (x2 : Int32) (x3 : Int32), J_X12_hallOn_68 p1 a_s (L_X12_hallOn_4 p1 a_s n4) x2 x3 = some o → Z p l e { frames := 1, cells := 0, slots := 0, locals := 22 } s m args below meth c Q 5 0 0 (IR D [(q_this, .inr (12, [.ref q_s, .ref q_before, .ref q_saved, .int f_isSaved, .ref q_past, .int f_pastMany, .int f_thrown, .int f_reason, .int f_detail, .int f_isRefused, .ref q_steps, .ref q_goes, .int f_goesMany, .int f_roundSteps, .ref q_line, .int f_lineMany, .ref q_text, .int f_length, .int f_at, .int f_isWrong, .int f_errorAt, .ref q_orders, .int f_orderMany])), (q_s, .inl (g 0, 147, .inl a_s))] s) 68 [(0, .ref q_this), (1, .int p1), (2, .int x2), (3, .int x3)] [] := by
        intro x2 x3 h
        refine z_iload_n X 2 dX12_hallOn_68 rfl rfl ?_
        refine z_sub (lv' := [(0, .ref q_this), (1, .int p1), (3, .int x3)]) [0, 1, 3] rfl ?_
        exact H69 x2 x3 h
      refine z_iload_n X 3 dX12_hallOn_4 rfl rfl ?_
      refine z_aload_n X 0 dX12_hallOn_5 rfl rfl ?_
      refine z_get (q0 := 0) (k := 0) (ci := 12) X IR_P iw_X12 rfl qf_X12_X12_s (by decide) dX12_hallOn_6 rfl rfl ?_
      refine z_iconst X (3 : Int32) dX12_hallOn_9 (by decide) ?_
      refine z_iald (q0 := 1) X IR_P dX12_hallOn_10 rfl h (fun h => ?_)
      refine z_icmp_ge X 76 dX12_hallOn_11 (by decide) h (fun _ h => ?_) (fun _ h => ?_)
      · refine z_iload_n X 2 dX12_hallOn_76 rfl rfl ?_
        exact z_iretR X hQ hr dX12_hallOn_77 h
      · refine z_bipush X (127 : Int32) dX12_hallOn_14 (by decide) ?_
        refine z_iconst X (3 : Int32) dX12_hallOn_16 (by decide) ?_
        refine z_iload_n X 3 dX12_hallOn_17 rfl rfl ?_
        refine z_imul X dX12_hallOn_18 ?_
        refine z_iadd X dX12_hallOn_19 ?_
        refine z_istore X [(4, .int ((127 : Int32) + ((3 : Int32) * x3))), (0, .ref q_this), (1, .int p1), (2, .int x2), (3, .int x3)] dX12_hallOn_20 (by decide) rfl ?_
        refine z_iload_n X 2 dX12_hallOn_22 rfl rfl ?_
        refine z_bipush X (8 : Int32) dX12_hallOn_23 (by decide) ?_
        refine z_idiv X dX12_hallOn_25 (by decide) ?_
        refine z_aload_n X 1 dX12_hallOn_26 rfl rfl ?_
        refine z_get (q0 := 0) (k := 0) (ci := 12) X IR_P iw_X12 rfl qf_X12_X12_s (by decide) dX12_hallOn_27 rfl rfl ?_
        refine z_iload X 0 dX12_hallOn_30 rfl ?_
        refine z_iald (q0 := 1) X IR_P dX12_hallOn_32 rfl h (fun h => ?_)
        refine z_icmp_ne X 68 dX12_hallOn_33 (by decide) h (fun _ h => ?_) (fun _ h => ?_)
        · refine z_iload_n X 2 dX12_hallOn_36 rfl rfl ?_
          refine z_bipush X (8 : Int32) dX12_hallOn_37 (by decide) ?_
          refine z_irem X dX12_hallOn_39 (by decide) ?_
          refine z_aload_n X 1 dX12_hallOn_40 rfl rfl ?_
          refine z_get (q0 := 0) (k := 0) (ci := 12) X IR_P iw_X12 rfl qf_X12_X12_s (by decide) dX12_hallOn_41 rfl rfl ?_
          refine z_iload X 0 dX12_hallOn_44 rfl ?_
          refine z_iconst X (1 : Int32) dX12_hallOn_46 (by decide) ?_
          refine z_iadd X dX12_hallOn_47 ?_
          refine z_iald (q0 := 1) X IR_P dX12_hallOn_48 rfl h (fun h => ?_)
          refine z_aload_n X 1 dX12_hallOn_49 rfl rfl ?_
          refine z_get (q0 := 0) (k := 0) (ci := 12) X IR_P iw_X12 rfl qf_X12_X12_s (by decide) dX12_hallOn_50 rfl rfl ?_
          refine z_iload X 0 dX12_hallOn_53 rfl ?_
          refine z_iconst X (2 : Int32) dX12_hallOn_55 (by decide) ?_
          refine z_iadd X dX12_hallOn_56 ?_
          refine z_iald (q0 := 1) X IR_P dX12_hallOn_57 rfl h (fun h => ?_)
          obtain ⟨o1, e2, h⟩ := bnd_p h
          refine z_rdS (rest := []) X IR_P k_X12_in (c_X12_in l D g (p1 - p1 / (8 : Int32) * (8 : Int32)) (a_s (((127 : Int32) + ((3 : Int32) * x3)) + (1 : Int32)).toNatClampNeg) (a_s (((127 : Int32) + ((3 : Int32) * x3)) + (2 : Int32)).toNatClampNeg) o1 e2) ql_X12_X12_in dX12_hallOn_58 [] rfl rfl rfl ⟨Nat.le_of_ble_eq_true rfl, Nat.le_of_ble_eq_true rfl, rfl, rfl, Nat.le_of_ble_eq_true rfl, Nat.le_of_ble_eq_true rfl⟩ (Nat.le_of_ble_eq_true rfl) ?_
          refine z_if_eq X 68 dX12_hallOn_61 (by decide) h (fun _ h => ?_) (fun _ h => ?_)
          · refine z_sub (lv' := [(0, .ref q_this), (1, .int p1), (2, .int x2), (3, .int x3)]) [1, 2, 3, 4] rfl ?_
            exact H68 x2 x3 h
          · refine z_iload_n X 4 dX12_hallOn_64 rfl rfl ?_
            refine z_goto X 69 dX12_hallOn_65 (by decide) ?_
            refine z_sub (lv' := [(0, .ref q_this), (1, .int p1), (3, .int x3)]) [1, 2, 4] rfl ?_
            exact H69 x3 x3 h
        · refine z_sub (lv' := [(0, .ref q_this), (1, .int p1), (2, .int x2), (3, .int x3)]) [1, 2, 3, 4] rfl ?_
          exact H68 x2 x3 h
  refine z_iconst X ((-1) : Int32) dX12_hallOn_0 (by decide) ?_
  refine z_istore_n X [(2, .int ((-1) : Int32)), (0, .ref q_this), (1, .int p1)] dX12_hallOn_1 rfl (by decide) rfl ?_
  refine z_iconst X (0 : Int32) dX12_hallOn_2 (by decide) ?_
  refine z_istore_n X [(3, .int (0 : Int32)), (2, .int ((-1) : Int32)), (0, .ref q_this), (1, .int p1)] dX12_hallOn_3 rfl (by decide) rfl ?_
  refine z_sub (lv' := [(0, .ref q_this), (1, .int p1), (2, .int ((-1) : Int32)), (3, .int (0 : Int32))]) [2, 3, 1, 0] rfl ?_
  exact H4 100 ((-1) : Int32) (0 : Int32) h

def F_X12_far (p0 : Int32) (p1 : Int32) : Option (Int32) :=
  some ((if 0 ≤ ((p0 / (8 : Int32)) - (p1 / (8 : Int32))) then ((p0 / (8 : Int32)) - (p1 / (8 : Int32))) else 0 - ((p0 / (8 : Int32)) - (p1 / (8 : Int32)))) + (if 0 ≤ ((p0 - p0 / (8 : Int32) * (8 : Int32)) - (p1 - p1 / (8 : Int32) * (8 : Int32))) then ((p0 - p0 / (8 : Int32) * (8 : Int32)) - (p1 - p1 / (8 : Int32) * (8 : Int32))) else 0 - ((p0 - p0 / (8 : Int32) * (8 : Int32)) - (p1 - p1 / (8 : Int32) * (8 : Int32)))))
theorem dX12_far_0 : decode cX12_far 0 = .ok (.iload_n 0, 1) := by decide +kernel
theorem dX12_far_1 : decode cX12_far 1 = .ok (.bipush 8, 2) := by decide +kernel
theorem dX12_far_3 : decode cX12_far 3 = .ok (.idiv, 1) := by decide +kernel
theorem dX12_far_4 : decode cX12_far 4 = .ok (.iload_n 1, 1) := by decide +kernel
theorem dX12_far_5 : decode cX12_far 5 = .ok (.bipush 8, 2) := by decide +kernel
theorem dX12_far_7 : decode cX12_far 7 = .ok (.idiv, 1) := by decide +kernel
theorem dX12_far_8 : decode cX12_far 8 = .ok (.isub, 1) := by decide +kernel
theorem dX12_far_9 : decode cX12_far 9 = .ok (.invokestatic 76, 3) := by decide +kernel
theorem dX12_far_12 : decode cX12_far 12 = .ok (.iload_n 0, 1) := by decide +kernel
theorem dX12_far_13 : decode cX12_far 13 = .ok (.bipush 8, 2) := by decide +kernel
theorem dX12_far_15 : decode cX12_far 15 = .ok (.irem, 1) := by decide +kernel
theorem dX12_far_16 : decode cX12_far 16 = .ok (.iload_n 1, 1) := by decide +kernel
theorem dX12_far_17 : decode cX12_far 17 = .ok (.bipush 8, 2) := by decide +kernel
theorem dX12_far_19 : decode cX12_far 19 = .ok (.irem, 1) := by decide +kernel
theorem dX12_far_20 : decode cX12_far 20 = .ok (.isub, 1) := by decide +kernel
theorem dX12_far_21 : decode cX12_far 21 = .ok (.invokestatic 76, 3) := by decide +kernel
theorem dX12_far_24 : decode cX12_far 24 = .ok (.iadd, 1) := by decide +kernel
theorem dX12_far_25 : decode cX12_far 25 = .ok (.ireturn, 1) := by decide +kernel
theorem k_X12_far : cardS yX12_far (Cond.code yX12_far cX12_far 2 (some .int)) 2 := ⟨qs_X12_far, qc_X12_far, qn_X12, by decide +kernel, by decide +kernel, by decide +kernel⟩
set_option maxHeartbeats 4000000 in
set_option maxRecDepth 100000 in
theorem c_X12_far (l : Launch) (D : va_G) (g : Nat → ClassId) (p0 p1 : Int32) (o : Int32) (h : F_X12_far p0 p1 = some o) : MR l yX12_far (Cond.code yX12_far cX12_far 2 (some .int)) { frames := 1, cells := 0, slots := 0, locals := 40 } D g [.int p0, .int p1] [] (some (.int o)) := by
  refine z_rd_start (by decide) (Nat.le_of_ble_eq_true rfl) ?_
  intro p e s m args below meth c Q X hr hQ
  refine z_lv (lv' := [(0, .int p0), (1, .int p1)]) rfl ?_
  refine z_iload_n X 0 dX12_far_0 rfl rfl ?_
  refine z_bipush X (8 : Int32) dX12_far_1 (by decide) ?_
  refine z_idiv X dX12_far_3 (by decide) ?_
  refine z_iload_n X 1 dX12_far_4 rfl rfl ?_
  refine z_bipush X (8 : Int32) dX12_far_5 (by decide) ?_
  refine z_idiv X dX12_far_7 (by decide) ?_
  refine z_isub X dX12_far_8 ?_
  refine z_mabs X ql_X12_mabs dX12_far_9 (Nat.le_of_ble_eq_true rfl) (Nat.le_of_ble_eq_true rfl) (Nat.le_of_ble_eq_true rfl) (Nat.le_of_ble_eq_true rfl) ?_
  refine z_iload_n X 0 dX12_far_12 rfl rfl ?_
  refine z_bipush X (8 : Int32) dX12_far_13 (by decide) ?_
  refine z_irem X dX12_far_15 (by decide) ?_
  refine z_iload_n X 1 dX12_far_16 rfl rfl ?_
  refine z_bipush X (8 : Int32) dX12_far_17 (by decide) ?_
  refine z_irem X dX12_far_19 (by decide) ?_
  refine z_isub X dX12_far_20 ?_
  refine z_mabs X ql_X12_mabs dX12_far_21 (Nat.le_of_ble_eq_true rfl) (Nat.le_of_ble_eq_true rfl) (Nat.le_of_ble_eq_true rfl) (Nat.le_of_ble_eq_true rfl) ?_
  refine z_iadd X dX12_far_24 ?_
  exact z_iretR X hQ hr dX12_far_25 h

def J_X12_doHouse_29 (p1 : Int32) (p2 : Int32) (p3 : Int32) (f_thrown : Int32) (f_reason : Int32) (f_detail : Int32) (f_isRefused : Int32) (a_s : Nat → Int32) : Option (Int32 × Int32 × Int32 × Int32 × Int32 × (Nat → Int32)) :=
  bnd (F_X12_fails (1 : Int32) f_thrown) (fun o3 => some (o3.1, o3.2, f_reason, f_detail, f_isRefused, a_s))

def F_X12_doHouse (p1 : Int32) (p2 : Int32) (p3 : Int32) (f_thrown : Int32) (f_reason : Int32) (f_detail : Int32) (f_isRefused : Int32) (a_s : Nat → Int32) : Option (Int32 × Int32 × Int32 × Int32 × Int32 × (Nat → Int32)) :=
  grd (inb (2 : Int32) 147) (bnd (F_X12_isCell p1) (fun o1 => brn (o1 = 0) (J_X12_doHouse_29 p1 p2 p3 f_thrown f_reason f_detail f_isRefused a_s) (bnd (F_X12_isHour p2) (fun o5 => brn (o5 = 0) (J_X12_doHouse_29 p1 p2 p3 f_thrown f_reason f_detail f_isRefused a_s) (bnd (F_X12_isHour p3) (fun o7 => brn (o7 = 0) (J_X12_doHouse_29 p1 p2 p3 f_thrown f_reason f_detail f_isRefused a_s) (bnd (F_X12_isBlocked p1 a_s) (fun o9 => brn (o9 = 0) (bnd (F_X12_houseOn p1 a_s) (fun o11 => brn (o11 < 0) (brn ((a_s (2 : Int32).toNatClampNeg) = (10 : Int32)) (bnd (F_X12_refuse (2 : Int32) (1 : Int32) (10 : Int32) f_thrown f_reason f_detail f_isRefused) (fun o13 => some (o13.1, o13.2.1, o13.2.2.1, o13.2.2.2.1, o13.2.2.2.2, a_s))) (bnd (F_X12_at (a_s (2 : Int32).toNatClampNeg) (0 : Int32)) (fun o15 => grd (inb o15 147) (bnd (F_X12_at (a_s (2 : Int32).toNatClampNeg) (1 : Int32)) (fun o17 => grd (inb o17 147) (bnd (F_X12_at (a_s (2 : Int32).toNatClampNeg) (2 : Int32)) (fun o19 => grd (inb o19 147) (bnd (F_X12_at (a_s (2 : Int32).toNatClampNeg) (3 : Int32)) (fun o21 => grd (inb o21 147) (bnd (F_X12_at (a_s (2 : Int32).toNatClampNeg) (4 : Int32)) (fun o23 => grd (inb o23 147) (grd (inb (2 : Int32) 147) (grd (inb (2 : Int32) 147) (some (a_s (2 : Int32).toNatClampNeg, f_thrown, f_reason, f_detail, f_isRefused, (upd (upd (upd (upd (upd (upd a_s o15.toNatClampNeg p1) o17.toNatClampNeg p2) o19.toNatClampNeg p3) o21.toNatClampNeg (0 : Int32)) o23.toNatClampNeg (0 : Int32)) (2 : Int32).toNatClampNeg (((upd (upd (upd (upd (upd a_s o15.toNatClampNeg p1) o17.toNatClampNeg p2) o19.toNatClampNeg p3) o21.toNatClampNeg (0 : Int32)) o23.toNatClampNeg (0 : Int32)) (2 : Int32).toNatClampNeg) + (1 : Int32)))))))))))))))))) (bnd (F_X12_houseOn p1 a_s) (fun o25 => bnd (F_X12_refuse (2 : Int32) (3 : Int32) o25 f_thrown f_reason f_detail f_isRefused) (fun o27 => some (o27.1, o27.2.1, o27.2.2.1, o27.2.2.2.1, o27.2.2.2.2, a_s)))))) (bnd (F_X12_refuse (2 : Int32) (2 : Int32) p1 f_thrown f_reason f_detail f_isRefused) (fun o29 => some (o29.1, o29.2.1, o29.2.2.1, o29.2.2.2.1, o29.2.2.2.2, a_s)))))))))))
theorem dX12_doHouse_0 : decode cX12_doHouse 0 = .ok (.aload_n 0, 1) := by decide +kernel
theorem dX12_doHouse_1 : decode cX12_doHouse 1 = .ok (.getfield 9, 3) := by decide +kernel
theorem dX12_doHouse_4 : decode cX12_doHouse 4 = .ok (.iconst 2, 1) := by decide +kernel
theorem dX12_doHouse_5 : decode cX12_doHouse 5 = .ok (.iaload, 1) := by decide +kernel
theorem dX12_doHouse_6 : decode cX12_doHouse 6 = .ok (.istore 4, 2) := by decide +kernel
theorem dX12_doHouse_8 : decode cX12_doHouse 8 = .ok (.iload_n 1, 1) := by decide +kernel
theorem dX12_doHouse_9 : decode cX12_doHouse 9 = .ok (.invokestatic 81, 3) := by decide +kernel
theorem dX12_doHouse_12 : decode cX12_doHouse 12 = .ok (.ifCond .eq 17, 3) := by decide +kernel
theorem dX12_doHouse_15 : decode cX12_doHouse 15 = .ok (.iload_n 2, 1) := by decide +kernel
theorem dX12_doHouse_16 : decode cX12_doHouse 16 = .ok (.invokestatic 85, 3) := by decide +kernel
theorem dX12_doHouse_19 : decode cX12_doHouse 19 = .ok (.ifCond .eq 10, 3) := by decide +kernel
theorem dX12_doHouse_22 : decode cX12_doHouse 22 = .ok (.iload_n 3, 1) := by decide +kernel
theorem dX12_doHouse_23 : decode cX12_doHouse 23 = .ok (.invokestatic 85, 3) := by decide +kernel
theorem dX12_doHouse_26 : decode cX12_doHouse 26 = .ok (.ifCond .ne 9, 3) := by decide +kernel
theorem dX12_doHouse_29 : decode cX12_doHouse 29 = .ok (.aload_n 0, 1) := by decide +kernel
theorem dX12_doHouse_30 : decode cX12_doHouse 30 = .ok (.iconst 1, 1) := by decide +kernel
theorem dX12_doHouse_31 : decode cX12_doHouse 31 = .ok (.invokevirtual 88, 3) := by decide +kernel
theorem dX12_doHouse_34 : decode cX12_doHouse 34 = .ok (.ireturn, 1) := by decide +kernel
theorem dX12_doHouse_35 : decode cX12_doHouse 35 = .ok (.aload_n 0, 1) := by decide +kernel
theorem dX12_doHouse_36 : decode cX12_doHouse 36 = .ok (.iload_n 1, 1) := by decide +kernel
theorem dX12_doHouse_37 : decode cX12_doHouse 37 = .ok (.invokevirtual 91, 3) := by decide +kernel
theorem dX12_doHouse_40 : decode cX12_doHouse 40 = .ok (.ifCond .eq 11, 3) := by decide +kernel
theorem dX12_doHouse_43 : decode cX12_doHouse 43 = .ok (.aload_n 0, 1) := by decide +kernel
theorem dX12_doHouse_44 : decode cX12_doHouse 44 = .ok (.iconst 2, 1) := by decide +kernel
theorem dX12_doHouse_45 : decode cX12_doHouse 45 = .ok (.iconst 2, 1) := by decide +kernel
theorem dX12_doHouse_46 : decode cX12_doHouse 46 = .ok (.iload_n 1, 1) := by decide +kernel
theorem dX12_doHouse_47 : decode cX12_doHouse 47 = .ok (.invokevirtual 94, 3) := by decide +kernel
theorem dX12_doHouse_50 : decode cX12_doHouse 50 = .ok (.ireturn, 1) := by decide +kernel
theorem dX12_doHouse_51 : decode cX12_doHouse 51 = .ok (.aload_n 0, 1) := by decide +kernel
theorem dX12_doHouse_52 : decode cX12_doHouse 52 = .ok (.iload_n 1, 1) := by decide +kernel
theorem dX12_doHouse_53 : decode cX12_doHouse 53 = .ok (.invokevirtual 98, 3) := by decide +kernel
theorem dX12_doHouse_56 : decode cX12_doHouse 56 = .ok (.ifCond .lt 15, 3) := by decide +kernel
theorem dX12_doHouse_59 : decode cX12_doHouse 59 = .ok (.aload_n 0, 1) := by decide +kernel
theorem dX12_doHouse_60 : decode cX12_doHouse 60 = .ok (.iconst 2, 1) := by decide +kernel
theorem dX12_doHouse_61 : decode cX12_doHouse 61 = .ok (.iconst 3, 1) := by decide +kernel
theorem dX12_doHouse_62 : decode cX12_doHouse 62 = .ok (.aload_n 0, 1) := by decide +kernel
theorem dX12_doHouse_63 : decode cX12_doHouse 63 = .ok (.iload_n 1, 1) := by decide +kernel
theorem dX12_doHouse_64 : decode cX12_doHouse 64 = .ok (.invokevirtual 98, 3) := by decide +kernel
theorem dX12_doHouse_67 : decode cX12_doHouse 67 = .ok (.invokevirtual 94, 3) := by decide +kernel
theorem dX12_doHouse_70 : decode cX12_doHouse 70 = .ok (.ireturn, 1) := by decide +kernel
theorem dX12_doHouse_71 : decode cX12_doHouse 71 = .ok (.iload 4, 2) := by decide +kernel
theorem dX12_doHouse_73 : decode cX12_doHouse 73 = .ok (.bipush 10, 2) := by decide +kernel
theorem dX12_doHouse_75 : decode cX12_doHouse 75 = .ok (.if_icmp .ne 12, 3) := by decide +kernel
theorem dX12_doHouse_78 : decode cX12_doHouse 78 = .ok (.aload_n 0, 1) := by decide +kernel
theorem dX12_doHouse_79 : decode cX12_doHouse 79 = .ok (.iconst 2, 1) := by decide +kernel
theorem dX12_doHouse_80 : decode cX12_doHouse 80 = .ok (.iconst 1, 1) := by decide +kernel
theorem dX12_doHouse_81 : decode cX12_doHouse 81 = .ok (.bipush 10, 2) := by decide +kernel
theorem dX12_doHouse_83 : decode cX12_doHouse 83 = .ok (.invokevirtual 94, 3) := by decide +kernel
theorem dX12_doHouse_86 : decode cX12_doHouse 86 = .ok (.ireturn, 1) := by decide +kernel
theorem dX12_doHouse_87 : decode cX12_doHouse 87 = .ok (.aload_n 0, 1) := by decide +kernel
theorem dX12_doHouse_88 : decode cX12_doHouse 88 = .ok (.getfield 9, 3) := by decide +kernel
theorem dX12_doHouse_91 : decode cX12_doHouse 91 = .ok (.iload 4, 2) := by decide +kernel
theorem dX12_doHouse_93 : decode cX12_doHouse 93 = .ok (.iconst 0, 1) := by decide +kernel
theorem dX12_doHouse_94 : decode cX12_doHouse 94 = .ok (.invokestatic 68, 3) := by decide +kernel
theorem dX12_doHouse_97 : decode cX12_doHouse 97 = .ok (.iload_n 1, 1) := by decide +kernel
theorem dX12_doHouse_98 : decode cX12_doHouse 98 = .ok (.iastore, 1) := by decide +kernel
theorem dX12_doHouse_99 : decode cX12_doHouse 99 = .ok (.aload_n 0, 1) := by decide +kernel
theorem dX12_doHouse_100 : decode cX12_doHouse 100 = .ok (.getfield 9, 3) := by decide +kernel
theorem dX12_doHouse_103 : decode cX12_doHouse 103 = .ok (.iload 4, 2) := by decide +kernel
theorem dX12_doHouse_105 : decode cX12_doHouse 105 = .ok (.iconst 1, 1) := by decide +kernel
theorem dX12_doHouse_106 : decode cX12_doHouse 106 = .ok (.invokestatic 68, 3) := by decide +kernel
theorem dX12_doHouse_109 : decode cX12_doHouse 109 = .ok (.iload_n 2, 1) := by decide +kernel
theorem dX12_doHouse_110 : decode cX12_doHouse 110 = .ok (.iastore, 1) := by decide +kernel
theorem dX12_doHouse_111 : decode cX12_doHouse 111 = .ok (.aload_n 0, 1) := by decide +kernel
theorem dX12_doHouse_112 : decode cX12_doHouse 112 = .ok (.getfield 9, 3) := by decide +kernel
theorem dX12_doHouse_115 : decode cX12_doHouse 115 = .ok (.iload 4, 2) := by decide +kernel
theorem dX12_doHouse_117 : decode cX12_doHouse 117 = .ok (.iconst 2, 1) := by decide +kernel
theorem dX12_doHouse_118 : decode cX12_doHouse 118 = .ok (.invokestatic 68, 3) := by decide +kernel
theorem dX12_doHouse_121 : decode cX12_doHouse 121 = .ok (.iload_n 3, 1) := by decide +kernel
theorem dX12_doHouse_122 : decode cX12_doHouse 122 = .ok (.iastore, 1) := by decide +kernel
theorem dX12_doHouse_123 : decode cX12_doHouse 123 = .ok (.aload_n 0, 1) := by decide +kernel
theorem dX12_doHouse_124 : decode cX12_doHouse 124 = .ok (.getfield 9, 3) := by decide +kernel
theorem dX12_doHouse_127 : decode cX12_doHouse 127 = .ok (.iload 4, 2) := by decide +kernel
theorem dX12_doHouse_129 : decode cX12_doHouse 129 = .ok (.iconst 3, 1) := by decide +kernel
theorem dX12_doHouse_130 : decode cX12_doHouse 130 = .ok (.invokestatic 68, 3) := by decide +kernel
theorem dX12_doHouse_133 : decode cX12_doHouse 133 = .ok (.iconst 0, 1) := by decide +kernel
theorem dX12_doHouse_134 : decode cX12_doHouse 134 = .ok (.iastore, 1) := by decide +kernel
theorem dX12_doHouse_135 : decode cX12_doHouse 135 = .ok (.aload_n 0, 1) := by decide +kernel
theorem dX12_doHouse_136 : decode cX12_doHouse 136 = .ok (.getfield 9, 3) := by decide +kernel
theorem dX12_doHouse_139 : decode cX12_doHouse 139 = .ok (.iload 4, 2) := by decide +kernel
theorem dX12_doHouse_141 : decode cX12_doHouse 141 = .ok (.iconst 4, 1) := by decide +kernel
theorem dX12_doHouse_142 : decode cX12_doHouse 142 = .ok (.invokestatic 68, 3) := by decide +kernel
theorem dX12_doHouse_145 : decode cX12_doHouse 145 = .ok (.iconst 0, 1) := by decide +kernel
theorem dX12_doHouse_146 : decode cX12_doHouse 146 = .ok (.iastore, 1) := by decide +kernel
theorem dX12_doHouse_147 : decode cX12_doHouse 147 = .ok (.aload_n 0, 1) := by decide +kernel
theorem dX12_doHouse_148 : decode cX12_doHouse 148 = .ok (.getfield 9, 3) := by decide +kernel
theorem dX12_doHouse_151 : decode cX12_doHouse 151 = .ok (.iconst 2, 1) := by decide +kernel
theorem dX12_doHouse_152 : decode cX12_doHouse 152 = .ok (.dup2, 1) := by decide +kernel
theorem dX12_doHouse_153 : decode cX12_doHouse 153 = .ok (.iaload, 1) := by decide +kernel
theorem dX12_doHouse_154 : decode cX12_doHouse 154 = .ok (.iconst 1, 1) := by decide +kernel
theorem dX12_doHouse_155 : decode cX12_doHouse 155 = .ok (.iadd, 1) := by decide +kernel
theorem dX12_doHouse_156 : decode cX12_doHouse 156 = .ok (.iastore, 1) := by decide +kernel
theorem dX12_doHouse_157 : decode cX12_doHouse 157 = .ok (.iload 4, 2) := by decide +kernel
theorem dX12_doHouse_159 : decode cX12_doHouse 159 = .ok (.ireturn, 1) := by decide +kernel
theorem k_X12_doHouse : cardV yX12_doHouse (Cond.code yX12_doHouse cX12_doHouse 5 (some .int)) 3 := ⟨⟨qi_X12_doHouse, qv_X12_doHouse⟩, qc_X12_doHouse, qn_X12, by decide +kernel, by decide +kernel, by decide +kernel⟩
set_option maxHeartbeats 4000000 in
set_option maxRecDepth 100000 in
theorem c_X12_doHouse (l : Launch) (D : va_G) (g : Nat → ClassId) (q_this q_s q_before q_saved q_past q_steps q_goes q_line q_text q_orders : Nat) (p1 p2 p3 : Int32) (f_isSaved : Int32) (f_pastMany : Int32) (f_thrown : Int32) (f_reason : Int32) (f_detail : Int32) (f_isRefused : Int32) (f_goesMany : Int32) (f_roundSteps : Int32) (f_lineMany : Int32) (f_length : Int32) (f_at : Int32) (f_isWrong : Int32) (f_errorAt : Int32) (f_orderMany : Int32) (a_s : Nat → Int32) (o : Int32 × Int32 × Int32 × Int32 × Int32 × (Nat → Int32)) (h : F_X12_doHouse p1 p2 p3 f_thrown f_reason f_detail f_isRefused a_s = some o) : MW l yX12_doHouse (Cond.code yX12_doHouse cX12_doHouse 5 (some .int)) { frames := 3, cells := 0, slots := 0, locals := 65 } D g [.ref q_this, .int p1, .int p2, .int p3] [(q_this, .inr (12, [.ref q_s, .ref q_before, .ref q_saved, .int f_isSaved, .ref q_past, .int f_pastMany, .int f_thrown, .int f_reason, .int f_detail, .int f_isRefused, .ref q_steps, .ref q_goes, .int f_goesMany, .int f_roundSteps, .ref q_line, .int f_lineMany, .ref q_text, .int f_length, .int f_at, .int f_isWrong, .int f_errorAt, .ref q_orders, .int f_orderMany])), (q_s, .inl (g 0, 147, .inl a_s))] (some (.int o.1)) [(q_this, .inr (12, [.ref q_s, .ref q_before, .ref q_saved, .int f_isSaved, .ref q_past, .int f_pastMany, .int o.2.1, .int o.2.2.1, .int o.2.2.2.1, .int o.2.2.2.2.1, .ref q_steps, .ref q_goes, .int f_goesMany, .int f_roundSteps, .ref q_line, .int f_lineMany, .ref q_text, .int f_length, .int f_at, .int f_isWrong, .int f_errorAt, .ref q_orders, .int f_orderMany])), (q_s, .inl (g 0, 147, .inl o.2.2.2.2.2))] := by
  refine z_wr_start (by decide) (Nat.le_of_ble_eq_true rfl) ?_
  intro p e s m args below meth c Q A X hr hQ hA
  refine z_lv (lv' := [(0, .ref q_this), (1, .int p1), (2, .int p2), (3, .int p3)]) rfl ?_
  have H29 : ∀ (f_thrown : Int32) (f_reason : Int32) (f_detail : Int32) (f_isRefused : Int32) (a_s : Nat → Int32), J_X12_doHouse_29 p1 p2 p3 f_thrown f_reason f_detail f_isRefused a_s = some o → Z p l e { frames := 3, cells := 0, slots := 0, locals := 65 } s m args below meth c Q 5 0 0 (IW D A s [(q_this, .inr (12, [.ref q_s, .ref q_before, .ref q_saved, .int f_isSaved, .ref q_past, .int f_pastMany, .int f_thrown, .int f_reason, .int f_detail, .int f_isRefused, .ref q_steps, .ref q_goes, .int f_goesMany, .int f_roundSteps, .ref q_line, .int f_lineMany, .ref q_text, .int f_length, .int f_at, .int f_isWrong, .int f_errorAt, .ref q_orders, .int f_orderMany])), (q_s, .inl (g 0, 147, .inl a_s))]) 29 [(0, .ref q_this)] [] := by
    intro f_thrown f_reason f_detail f_isRefused a_s h
    refine z_aload_n X 0 dX12_doHouse_29 rfl rfl ?_
    refine z_iconst X (1 : Int32) dX12_doHouse_30 (by decide) ?_
    obtain ⟨o3, e4, h⟩ := bnd_p h
    refine z_wrV (rest := []) (q0 := 0) (ci := 12) (ws' := [(q_this, .inr (12, [.ref q_s, .ref q_before, .ref q_saved, .int f_isSaved, .ref q_past, .int f_pastMany, .int o3.2, .int f_reason, .int f_detail, .int f_isRefused, .ref q_steps, .ref q_goes, .int f_goesMany, .int f_roundSteps, .ref q_line, .int f_lineMany, .ref q_text, .int f_length, .int f_at, .int f_isWrong, .int f_errorAt, .ref q_orders, .int f_orderMany])), (q_s, .inl (g 0, 147, .inl a_s))]) (wr := [(q_s, .inl (g 0, 147, .inl a_s))]) (as := [q_this, q_s]) X k_X12_fails (c_X12_fails l D g q_this q_s q_before q_saved q_past q_steps q_goes q_line q_text q_orders (1 : Int32) f_isSaved f_pastMany f_thrown f_reason f_detail f_isRefused f_goesMany f_roundSteps f_lineMany f_length f_at f_isWrong f_errorAt f_orderMany o3 e4) ql_X12_X12_fails dX12_doHouse_31 [0] [1] ⟨rfl, rfl, rfl, rfl, rfl, rfl, rfl, rfl⟩ rfl rfl rfl rfl rfl ⟨Nat.le_of_ble_eq_true rfl, Nat.le_of_ble_eq_true rfl, rfl, rfl, Nat.le_of_ble_eq_true rfl, Nat.le_of_ble_eq_true rfl⟩ (Nat.le_of_ble_eq_true rfl) ?_
    cases h
    exact z_iretW X hQ hA hr dX12_doHouse_34
  refine z_aload_n X 0 dX12_doHouse_0 rfl rfl ?_
  refine z_get (q0 := 0) (k := 0) (ci := 12) X IW_P iw_X12 rfl qf_X12_X12_s (by decide) dX12_doHouse_1 rfl rfl ?_
  refine z_iconst X (2 : Int32) dX12_doHouse_4 (by decide) ?_
  refine z_iald (q0 := 1) X IW_P dX12_doHouse_5 rfl h (fun h => ?_)
  refine z_istore X [(4, .int (a_s (2 : Int32).toNatClampNeg)), (0, .ref q_this), (1, .int p1), (2, .int p2), (3, .int p3)] dX12_doHouse_6 (by decide) rfl ?_
  refine z_iload_n X 2 dX12_doHouse_8 rfl rfl ?_
  obtain ⟨o1, e2, h⟩ := bnd_p h
  refine z_rdS (rest := []) X IW_P k_X12_isCell (c_X12_isCell l D g p1 o1 e2) ql_X12_X12_isCell dX12_doHouse_9 [] rfl rfl rfl ⟨Nat.le_of_ble_eq_true rfl, Nat.le_of_ble_eq_true rfl, rfl, rfl, Nat.le_of_ble_eq_true rfl, Nat.le_of_ble_eq_true rfl⟩ (Nat.le_of_ble_eq_true rfl) ?_
  refine z_if_eq X 29 dX12_doHouse_12 (by decide) h (fun _ h => ?_) (fun _ h => ?_)
  · refine z_sub (lv' := [(0, .ref q_this)]) [1] rfl ?_
    exact H29 f_thrown f_reason f_detail f_isRefused a_s h
  · refine z_iload_n X 3 dX12_doHouse_15 rfl rfl ?_
    obtain ⟨o5, e6, h⟩ := bnd_p h
    refine z_rdS (rest := []) X IW_P k_X12_isHour (c_X12_isHour l D g p2 o5 e6) ql_X12_X12_isHour dX12_doHouse_16 [] rfl rfl rfl ⟨Nat.le_of_ble_eq_true rfl, Nat.le_of_ble_eq_true rfl, rfl, rfl, Nat.le_of_ble_eq_true rfl, Nat.le_of_ble_eq_true rfl⟩ (Nat.le_of_ble_eq_true rfl) ?_
    refine z_if_eq X 29 dX12_doHouse_19 (by decide) h (fun _ h => ?_) (fun _ h => ?_)
    · refine z_sub (lv' := [(0, .ref q_this)]) [1] rfl ?_
      exact H29 f_thrown f_reason f_detail f_isRefused a_s h
    · refine z_iload_n X 4 dX12_doHouse_22 rfl rfl ?_
      obtain ⟨o7, e8, h⟩ := bnd_p h
      refine z_rdS (rest := []) X IW_P k_X12_isHour (c_X12_isHour l D g p3 o7 e8) ql_X12_X12_isHour dX12_doHouse_23 [] rfl rfl rfl ⟨Nat.le_of_ble_eq_true rfl, Nat.le_of_ble_eq_true rfl, rfl, rfl, Nat.le_of_ble_eq_true rfl, Nat.le_of_ble_eq_true rfl⟩ (Nat.le_of_ble_eq_true rfl) ?_
      refine z_if_ne X 35 dX12_doHouse_26 (by decide) h (fun _ h => ?_) (fun _ h => ?_)
      · refine z_sub (lv' := [(0, .ref q_this)]) [1] rfl ?_
        exact H29 f_thrown f_reason f_detail f_isRefused a_s h
      · refine z_aload_n X 1 dX12_doHouse_35 rfl rfl ?_
        refine z_iload_n X 2 dX12_doHouse_36 rfl rfl ?_
        obtain ⟨o9, e10, h⟩ := bnd_p h
        refine z_rdV (rest := []) (q0 := 0) (ci := 12) X IW_P k_X12_isBlocked (c_X12_isBlocked l D g q_this q_s q_before q_saved q_past q_steps q_goes q_line q_text q_orders p1 f_isSaved f_pastMany f_thrown f_reason f_detail f_isRefused f_goesMany f_roundSteps f_lineMany f_length f_at f_isWrong f_errorAt f_orderMany a_s o9 e10) ql_X12_X12_isBlocked dX12_doHouse_37 [0, 1] rfl rfl rfl rfl rfl rfl ⟨Nat.le_of_ble_eq_true rfl, Nat.le_of_ble_eq_true rfl, rfl, rfl, Nat.le_of_ble_eq_true rfl, Nat.le_of_ble_eq_true rfl⟩ (Nat.le_of_ble_eq_true rfl) ?_
        refine z_if_eq X 51 dX12_doHouse_40 (by decide) h (fun _ h => ?_) (fun _ h => ?_)
        · refine z_aload_n X 1 dX12_doHouse_51 rfl rfl ?_
          refine z_iload_n X 2 dX12_doHouse_52 rfl rfl ?_
          obtain ⟨o11, e12, h⟩ := bnd_p h
          refine z_rdV (rest := []) (q0 := 0) (ci := 12) X IW_P k_X12_houseOn (c_X12_houseOn l D g q_this q_s q_before q_saved q_past q_steps q_goes q_line q_text q_orders p1 f_isSaved f_pastMany f_thrown f_reason f_detail f_isRefused f_goesMany f_roundSteps f_lineMany f_length f_at f_isWrong f_errorAt f_orderMany a_s o11 e12) ql_X12_X12_houseOn dX12_doHouse_53 [0, 1] rfl rfl rfl rfl rfl rfl ⟨Nat.le_of_ble_eq_true rfl, Nat.le_of_ble_eq_true rfl, rfl, rfl, Nat.le_of_ble_eq_true rfl, Nat.le_of_ble_eq_true rfl⟩ (Nat.le_of_ble_eq_true rfl) ?_
          refine z_if_lt X 71 dX12_doHouse_56 (by decide) h (fun _ h => ?_) (fun _ h => ?_)
          · refine z_iload X 0 dX12_doHouse_71 rfl ?_
            refine z_bipush X (10 : Int32) dX12_doHouse_73 (by decide) ?_
            refine z_icmp_ne X 87 dX12_doHouse_75 (by decide) h (fun _ h => ?_) (fun _ h => ?_)
            · refine z_aload_n X 1 dX12_doHouse_78 rfl rfl ?_
              refine z_iconst X (2 : Int32) dX12_doHouse_79 (by decide) ?_
              refine z_iconst X (1 : Int32) dX12_doHouse_80 (by decide) ?_
              refine z_bipush X (10 : Int32) dX12_doHouse_81 (by decide) ?_
              obtain ⟨o13, e14, h⟩ := bnd_p h
              refine z_wrV (rest := []) (q0 := 0) (ci := 12) (ws' := [(q_this, .inr (12, [.ref q_s, .ref q_before, .ref q_saved, .int f_isSaved, .ref q_past, .int f_pastMany, .int o13.2.1, .int o13.2.2.1, .int o13.2.2.2.1, .int o13.2.2.2.2, .ref q_steps, .ref q_goes, .int f_goesMany, .int f_roundSteps, .ref q_line, .int f_lineMany, .ref q_text, .int f_length, .int f_at, .int f_isWrong, .int f_errorAt, .ref q_orders, .int f_orderMany])), (q_s, .inl (g 0, 147, .inl a_s))]) (wr := [(q_s, .inl (g 0, 147, .inl a_s))]) (as := [q_this, q_s]) X k_X12_refuse (c_X12_refuse l D g q_this q_s q_before q_saved q_past q_steps q_goes q_line q_text q_orders (2 : Int32) (1 : Int32) (10 : Int32) f_isSaved f_pastMany f_thrown f_reason f_detail f_isRefused f_goesMany f_roundSteps f_lineMany f_length f_at f_isWrong f_errorAt f_orderMany o13 e14) ql_X12_X12_refuse dX12_doHouse_83 [0] [1] ⟨rfl, rfl, rfl, rfl, rfl, rfl, rfl, rfl⟩ rfl rfl rfl rfl rfl ⟨Nat.le_of_ble_eq_true rfl, Nat.le_of_ble_eq_true rfl, rfl, rfl, Nat.le_of_ble_eq_true rfl, Nat.le_of_ble_eq_true rfl⟩ (Nat.le_of_ble_eq_true rfl) ?_
              cases h
              exact z_iretW X hQ hA hr dX12_doHouse_86
            · refine z_aload_n X 1 dX12_doHouse_87 rfl rfl ?_
              refine z_get (q0 := 0) (k := 0) (ci := 12) X IW_P iw_X12 rfl qf_X12_X12_s (by decide) dX12_doHouse_88 rfl rfl ?_
              refine z_iload X 0 dX12_doHouse_91 rfl ?_
              refine z_iconst X (0 : Int32) dX12_doHouse_93 (by decide) ?_
              obtain ⟨o15, e16, h⟩ := bnd_p h
              refine z_rdS (rest := [.ref q_s]) X IW_P k_X12_at (c_X12_at l D g (a_s (2 : Int32).toNatClampNeg) (0 : Int32) o15 e16) ql_X12_X12_at dX12_doHouse_94 [] rfl rfl rfl ⟨Nat.le_of_ble_eq_true rfl, Nat.le_of_ble_eq_true rfl, rfl, rfl, Nat.le_of_ble_eq_true rfl, Nat.le_of_ble_eq_true rfl⟩ (Nat.le_of_ble_eq_true rfl) ?_
              refine z_iload_n X 2 dX12_doHouse_97 rfl rfl ?_
              refine z_iast (q0 := 1) (ws' := [(q_this, .inr (12, [.ref q_s, .ref q_before, .ref q_saved, .int f_isSaved, .ref q_past, .int f_pastMany, .int f_thrown, .int f_reason, .int f_detail, .int f_isRefused, .ref q_steps, .ref q_goes, .int f_goesMany, .int f_roundSteps, .ref q_line, .int f_lineMany, .ref q_text, .int f_length, .int f_at, .int f_isWrong, .int f_errorAt, .ref q_orders, .int f_orderMany])), (q_s, .inl (g 0, 147, .inl (upd a_s o15.toNatClampNeg p1)))]) X dX12_doHouse_98 rfl h rfl (fun h => ?_)
              refine z_aload_n X 1 dX12_doHouse_99 rfl rfl ?_
              refine z_get (q0 := 0) (k := 0) (ci := 12) X IW_P iw_X12 rfl qf_X12_X12_s (by decide) dX12_doHouse_100 rfl rfl ?_
              refine z_iload X 0 dX12_doHouse_103 rfl ?_
              refine z_iconst X (1 : Int32) dX12_doHouse_105 (by decide) ?_
              obtain ⟨o17, e18, h⟩ := bnd_p h
              refine z_rdS (rest := [.ref q_s]) X IW_P k_X12_at (c_X12_at l D g (a_s (2 : Int32).toNatClampNeg) (1 : Int32) o17 e18) ql_X12_X12_at dX12_doHouse_106 [] rfl rfl rfl ⟨Nat.le_of_ble_eq_true rfl, Nat.le_of_ble_eq_true rfl, rfl, rfl, Nat.le_of_ble_eq_true rfl, Nat.le_of_ble_eq_true rfl⟩ (Nat.le_of_ble_eq_true rfl) ?_
              refine z_iload_n X 3 dX12_doHouse_109 rfl rfl ?_
              refine z_iast (q0 := 1) (ws' := [(q_this, .inr (12, [.ref q_s, .ref q_before, .ref q_saved, .int f_isSaved, .ref q_past, .int f_pastMany, .int f_thrown, .int f_reason, .int f_detail, .int f_isRefused, .ref q_steps, .ref q_goes, .int f_goesMany, .int f_roundSteps, .ref q_line, .int f_lineMany, .ref q_text, .int f_length, .int f_at, .int f_isWrong, .int f_errorAt, .ref q_orders, .int f_orderMany])), (q_s, .inl (g 0, 147, .inl (upd (upd a_s o15.toNatClampNeg p1) o17.toNatClampNeg p2)))]) X dX12_doHouse_110 rfl h rfl (fun h => ?_)
              refine z_aload_n X 1 dX12_doHouse_111 rfl rfl ?_
              refine z_get (q0 := 0) (k := 0) (ci := 12) X IW_P iw_X12 rfl qf_X12_X12_s (by decide) dX12_doHouse_112 rfl rfl ?_
              refine z_iload X 0 dX12_doHouse_115 rfl ?_
              refine z_iconst X (2 : Int32) dX12_doHouse_117 (by decide) ?_
              obtain ⟨o19, e20, h⟩ := bnd_p h
              refine z_rdS (rest := [.ref q_s]) X IW_P k_X12_at (c_X12_at l D g (a_s (2 : Int32).toNatClampNeg) (2 : Int32) o19 e20) ql_X12_X12_at dX12_doHouse_118 [] rfl rfl rfl ⟨Nat.le_of_ble_eq_true rfl, Nat.le_of_ble_eq_true rfl, rfl, rfl, Nat.le_of_ble_eq_true rfl, Nat.le_of_ble_eq_true rfl⟩ (Nat.le_of_ble_eq_true rfl) ?_
              refine z_iload_n X 4 dX12_doHouse_121 rfl rfl ?_
              refine z_iast (q0 := 1) (ws' := [(q_this, .inr (12, [.ref q_s, .ref q_before, .ref q_saved, .int f_isSaved, .ref q_past, .int f_pastMany, .int f_thrown, .int f_reason, .int f_detail, .int f_isRefused, .ref q_steps, .ref q_goes, .int f_goesMany, .int f_roundSteps, .ref q_line, .int f_lineMany, .ref q_text, .int f_length, .int f_at, .int f_isWrong, .int f_errorAt, .ref q_orders, .int f_orderMany])), (q_s, .inl (g 0, 147, .inl (upd (upd (upd a_s o15.toNatClampNeg p1) o17.toNatClampNeg p2) o19.toNatClampNeg p3)))]) X dX12_doHouse_122 rfl h rfl (fun h => ?_)
              refine z_aload_n X 1 dX12_doHouse_123 rfl rfl ?_
              refine z_get (q0 := 0) (k := 0) (ci := 12) X IW_P iw_X12 rfl qf_X12_X12_s (by decide) dX12_doHouse_124 rfl rfl ?_
              refine z_iload X 0 dX12_doHouse_127 rfl ?_
              refine z_iconst X (3 : Int32) dX12_doHouse_129 (by decide) ?_
              obtain ⟨o21, e22, h⟩ := bnd_p h
              refine z_rdS (rest := [.ref q_s]) X IW_P k_X12_at (c_X12_at l D g (a_s (2 : Int32).toNatClampNeg) (3 : Int32) o21 e22) ql_X12_X12_at dX12_doHouse_130 [] rfl rfl rfl ⟨Nat.le_of_ble_eq_true rfl, Nat.le_of_ble_eq_true rfl, rfl, rfl, Nat.le_of_ble_eq_true rfl, Nat.le_of_ble_eq_true rfl⟩ (Nat.le_of_ble_eq_true rfl) ?_
              refine z_iconst X (0 : Int32) dX12_doHouse_133 (by decide) ?_
              refine z_iast (q0 := 1) (ws' := [(q_this, .inr (12, [.ref q_s, .ref q_before, .ref q_saved, .int f_isSaved, .ref q_past, .int f_pastMany, .int f_thrown, .int f_reason, .int f_detail, .int f_isRefused, .ref q_steps, .ref q_goes, .int f_goesMany, .int f_roundSteps, .ref q_line, .int f_lineMany, .ref q_text, .int f_length, .int f_at, .int f_isWrong, .int f_errorAt, .ref q_orders, .int f_orderMany])), (q_s, .inl (g 0, 147, .inl (upd (upd (upd (upd a_s o15.toNatClampNeg p1) o17.toNatClampNeg p2) o19.toNatClampNeg p3) o21.toNatClampNeg (0 : Int32))))]) X dX12_doHouse_134 rfl h rfl (fun h => ?_)
              refine z_aload_n X 1 dX12_doHouse_135 rfl rfl ?_
              refine z_get (q0 := 0) (k := 0) (ci := 12) X IW_P iw_X12 rfl qf_X12_X12_s (by decide) dX12_doHouse_136 rfl rfl ?_
              refine z_iload X 0 dX12_doHouse_139 rfl ?_
              refine z_iconst X (4 : Int32) dX12_doHouse_141 (by decide) ?_
              obtain ⟨o23, e24, h⟩ := bnd_p h
              refine z_rdS (rest := [.ref q_s]) X IW_P k_X12_at (c_X12_at l D g (a_s (2 : Int32).toNatClampNeg) (4 : Int32) o23 e24) ql_X12_X12_at dX12_doHouse_142 [] rfl rfl rfl ⟨Nat.le_of_ble_eq_true rfl, Nat.le_of_ble_eq_true rfl, rfl, rfl, Nat.le_of_ble_eq_true rfl, Nat.le_of_ble_eq_true rfl⟩ (Nat.le_of_ble_eq_true rfl) ?_
              refine z_iconst X (0 : Int32) dX12_doHouse_145 (by decide) ?_
              refine z_iast (q0 := 1) (ws' := [(q_this, .inr (12, [.ref q_s, .ref q_before, .ref q_saved, .int f_isSaved, .ref q_past, .int f_pastMany, .int f_thrown, .int f_reason, .int f_detail, .int f_isRefused, .ref q_steps, .ref q_goes, .int f_goesMany, .int f_roundSteps, .ref q_line, .int f_lineMany, .ref q_text, .int f_length, .int f_at, .int f_isWrong, .int f_errorAt, .ref q_orders, .int f_orderMany])), (q_s, .inl (g 0, 147, .inl (upd (upd (upd (upd (upd a_s o15.toNatClampNeg p1) o17.toNatClampNeg p2) o19.toNatClampNeg p3) o21.toNatClampNeg (0 : Int32)) o23.toNatClampNeg (0 : Int32))))]) X dX12_doHouse_146 rfl h rfl (fun h => ?_)
              refine z_aload_n X 1 dX12_doHouse_147 rfl rfl ?_
              refine z_get (q0 := 0) (k := 0) (ci := 12) X IW_P iw_X12 rfl qf_X12_X12_s (by decide) dX12_doHouse_148 rfl rfl ?_
              refine z_iconst X (2 : Int32) dX12_doHouse_151 (by decide) ?_
              refine z_dup2 X dX12_doHouse_152 rfl rfl ?_
              refine z_iald (q0 := 1) X IW_P dX12_doHouse_153 rfl h (fun h => ?_)
              refine z_iconst X (1 : Int32) dX12_doHouse_154 (by decide) ?_
              refine z_iadd X dX12_doHouse_155 ?_
              refine z_iast (q0 := 1) (ws' := [(q_this, .inr (12, [.ref q_s, .ref q_before, .ref q_saved, .int f_isSaved, .ref q_past, .int f_pastMany, .int f_thrown, .int f_reason, .int f_detail, .int f_isRefused, .ref q_steps, .ref q_goes, .int f_goesMany, .int f_roundSteps, .ref q_line, .int f_lineMany, .ref q_text, .int f_length, .int f_at, .int f_isWrong, .int f_errorAt, .ref q_orders, .int f_orderMany])), (q_s, .inl (g 0, 147, .inl (upd (upd (upd (upd (upd (upd a_s o15.toNatClampNeg p1) o17.toNatClampNeg p2) o19.toNatClampNeg p3) o21.toNatClampNeg (0 : Int32)) o23.toNatClampNeg (0 : Int32)) (2 : Int32).toNatClampNeg (((upd (upd (upd (upd (upd a_s o15.toNatClampNeg p1) o17.toNatClampNeg p2) o19.toNatClampNeg p3) o21.toNatClampNeg (0 : Int32)) o23.toNatClampNeg (0 : Int32)) (2 : Int32).toNatClampNeg) + (1 : Int32)))))]) X dX12_doHouse_156 rfl h rfl (fun h => ?_)
              refine z_iload X 0 dX12_doHouse_157 rfl ?_
              cases h
              exact z_iretW X hQ hA hr dX12_doHouse_159
          · refine z_aload_n X 1 dX12_doHouse_59 rfl rfl ?_
            refine z_iconst X (2 : Int32) dX12_doHouse_60 (by decide) ?_
            refine z_iconst X (3 : Int32) dX12_doHouse_61 (by decide) ?_
            refine z_aload_n X 1 dX12_doHouse_62 rfl rfl ?_
            refine z_iload_n X 2 dX12_doHouse_63 rfl rfl ?_
            obtain ⟨o25, e26, h⟩ := bnd_p h
            refine z_rdV (rest := [.int (3 : Int32), .int (2 : Int32), .ref q_this]) (q0 := 0) (ci := 12) X IW_P k_X12_houseOn (c_X12_houseOn l D g q_this q_s q_before q_saved q_past q_steps q_goes q_line q_text q_orders p1 f_isSaved f_pastMany f_thrown f_reason f_detail f_isRefused f_goesMany f_roundSteps f_lineMany f_length f_at f_isWrong f_errorAt f_orderMany a_s o25 e26) ql_X12_X12_houseOn dX12_doHouse_64 [0, 1] rfl rfl rfl rfl rfl rfl ⟨Nat.le_of_ble_eq_true rfl, Nat.le_of_ble_eq_true rfl, rfl, rfl, Nat.le_of_ble_eq_true rfl, Nat.le_of_ble_eq_true rfl⟩ (Nat.le_of_ble_eq_true rfl) ?_
            obtain ⟨o27, e28, h⟩ := bnd_p h
            refine z_wrV (rest := []) (q0 := 0) (ci := 12) (ws' := [(q_this, .inr (12, [.ref q_s, .ref q_before, .ref q_saved, .int f_isSaved, .ref q_past, .int f_pastMany, .int o27.2.1, .int o27.2.2.1, .int o27.2.2.2.1, .int o27.2.2.2.2, .ref q_steps, .ref q_goes, .int f_goesMany, .int f_roundSteps, .ref q_line, .int f_lineMany, .ref q_text, .int f_length, .int f_at, .int f_isWrong, .int f_errorAt, .ref q_orders, .int f_orderMany])), (q_s, .inl (g 0, 147, .inl a_s))]) (wr := [(q_s, .inl (g 0, 147, .inl a_s))]) (as := [q_this, q_s]) X k_X12_refuse (c_X12_refuse l D g q_this q_s q_before q_saved q_past q_steps q_goes q_line q_text q_orders (2 : Int32) (3 : Int32) o25 f_isSaved f_pastMany f_thrown f_reason f_detail f_isRefused f_goesMany f_roundSteps f_lineMany f_length f_at f_isWrong f_errorAt f_orderMany o27 e28) ql_X12_X12_refuse dX12_doHouse_67 [0] [1] ⟨rfl, rfl, rfl, rfl, rfl, rfl, rfl, rfl⟩ rfl rfl rfl rfl rfl ⟨Nat.le_of_ble_eq_true rfl, Nat.le_of_ble_eq_true rfl, rfl, rfl, Nat.le_of_ble_eq_true rfl, Nat.le_of_ble_eq_true rfl⟩ (Nat.le_of_ble_eq_true rfl) ?_
            cases h
            exact z_iretW X hQ hA hr dX12_doHouse_70
        · refine z_aload_n X 1 dX12_doHouse_43 rfl rfl ?_
          refine z_iconst X (2 : Int32) dX12_doHouse_44 (by decide) ?_
          refine z_iconst X (2 : Int32) dX12_doHouse_45 (by decide) ?_
          refine z_iload_n X 2 dX12_doHouse_46 rfl rfl ?_
          obtain ⟨o29, e30, h⟩ := bnd_p h
          refine z_wrV (rest := []) (q0 := 0) (ci := 12) (ws' := [(q_this, .inr (12, [.ref q_s, .ref q_before, .ref q_saved, .int f_isSaved, .ref q_past, .int f_pastMany, .int o29.2.1, .int o29.2.2.1, .int o29.2.2.2.1, .int o29.2.2.2.2, .ref q_steps, .ref q_goes, .int f_goesMany, .int f_roundSteps, .ref q_line, .int f_lineMany, .ref q_text, .int f_length, .int f_at, .int f_isWrong, .int f_errorAt, .ref q_orders, .int f_orderMany])), (q_s, .inl (g 0, 147, .inl a_s))]) (wr := [(q_s, .inl (g 0, 147, .inl a_s))]) (as := [q_this, q_s]) X k_X12_refuse (c_X12_refuse l D g q_this q_s q_before q_saved q_past q_steps q_goes q_line q_text q_orders (2 : Int32) (2 : Int32) p1 f_isSaved f_pastMany f_thrown f_reason f_detail f_isRefused f_goesMany f_roundSteps f_lineMany f_length f_at f_isWrong f_errorAt f_orderMany o29 e30) ql_X12_X12_refuse dX12_doHouse_47 [0] [1] ⟨rfl, rfl, rfl, rfl, rfl, rfl, rfl, rfl⟩ rfl rfl rfl rfl rfl ⟨Nat.le_of_ble_eq_true rfl, Nat.le_of_ble_eq_true rfl, rfl, rfl, Nat.le_of_ble_eq_true rfl, Nat.le_of_ble_eq_true rfl⟩ (Nat.le_of_ble_eq_true rfl) ?_
          cases h
          exact z_iretW X hQ hA hr dX12_doHouse_50

def F_X12_house (p1 : Int32) (p2 : Int32) (p3 : Int32) (f_pastMany : Int32) (f_thrown : Int32) (f_reason : Int32) (f_detail : Int32) (f_isRefused : Int32) (a_s : Nat → Int32) (a_before : Nat → Int32) (a_past : Nat → Int32) : Option (Int32 × Int32 × Int32 × Int32 × Int32 × Int32 × (Nat → Int32) × (Nat → Int32) × (Nat → Int32)) :=
  bnd (F_X12_keep a_s f_thrown a_before) (fun o1 => bnd (F_X12_doHouse p1 p2 p3 o1.1 f_reason f_detail f_isRefused a_s) (fun o3 => bnd (F_X12_ends o3.1 o3.2.1 o1.2 f_pastMany o3.2.2.2.2.2 a_past) (fun o5 => some (o5.1, o5.2.1, o3.2.1, o3.2.2.1, o3.2.2.2.1, o3.2.2.2.2.1, o5.2.2.1, o1.2, o5.2.2.2))))
theorem dX12_house_0 : decode cX12_house 0 = .ok (.aload_n 0, 1) := by decide +kernel
theorem dX12_house_1 : decode cX12_house 1 = .ok (.invokevirtual 101, 3) := by decide +kernel
theorem dX12_house_4 : decode cX12_house 4 = .ok (.aload_n 0, 1) := by decide +kernel
theorem dX12_house_5 : decode cX12_house 5 = .ok (.aload_n 0, 1) := by decide +kernel
theorem dX12_house_6 : decode cX12_house 6 = .ok (.iload_n 1, 1) := by decide +kernel
theorem dX12_house_7 : decode cX12_house 7 = .ok (.iload_n 2, 1) := by decide +kernel
theorem dX12_house_8 : decode cX12_house 8 = .ok (.iload_n 3, 1) := by decide +kernel
theorem dX12_house_9 : decode cX12_house 9 = .ok (.invokevirtual 104, 3) := by decide +kernel
theorem dX12_house_12 : decode cX12_house 12 = .ok (.invokevirtual 107, 3) := by decide +kernel
theorem dX12_house_15 : decode cX12_house 15 = .ok (.ireturn, 1) := by decide +kernel
theorem k_X12_house : cardV yX12_house (Cond.code yX12_house cX12_house 4 (some .int)) 3 := ⟨⟨qi_X12_house, qv_X12_house⟩, qc_X12_house, qn_X12, by decide +kernel, by decide +kernel, by decide +kernel⟩
set_option maxHeartbeats 4000000 in
set_option maxRecDepth 100000 in
theorem c_X12_house (l : Launch) (D : va_G) (g : Nat → ClassId) (q_this q_s q_before q_saved q_past q_steps q_goes q_line q_text q_orders : Nat) (p1 p2 p3 : Int32) (f_isSaved : Int32) (f_pastMany : Int32) (f_thrown : Int32) (f_reason : Int32) (f_detail : Int32) (f_isRefused : Int32) (f_goesMany : Int32) (f_roundSteps : Int32) (f_lineMany : Int32) (f_length : Int32) (f_at : Int32) (f_isWrong : Int32) (f_errorAt : Int32) (f_orderMany : Int32) (a_s : Nat → Int32) (a_before : Nat → Int32) (a_past : Nat → Int32) (o : Int32 × Int32 × Int32 × Int32 × Int32 × Int32 × (Nat → Int32) × (Nat → Int32) × (Nat → Int32)) (h : F_X12_house p1 p2 p3 f_pastMany f_thrown f_reason f_detail f_isRefused a_s a_before a_past = some o) : MW l yX12_house (Cond.code yX12_house cX12_house 4 (some .int)) { frames := 4, cells := 0, slots := 0, locals := 89 } D g [.ref q_this, .int p1, .int p2, .int p3] [(q_this, .inr (12, [.ref q_s, .ref q_before, .ref q_saved, .int f_isSaved, .ref q_past, .int f_pastMany, .int f_thrown, .int f_reason, .int f_detail, .int f_isRefused, .ref q_steps, .ref q_goes, .int f_goesMany, .int f_roundSteps, .ref q_line, .int f_lineMany, .ref q_text, .int f_length, .int f_at, .int f_isWrong, .int f_errorAt, .ref q_orders, .int f_orderMany])), (q_s, .inl (g 0, 147, .inl a_s)), (q_before, .inl (g 0, 147, .inl a_before)), (q_past, .inl (g 0, 1176, .inl a_past))] (some (.int o.1)) [(q_this, .inr (12, [.ref q_s, .ref q_before, .ref q_saved, .int f_isSaved, .ref q_past, .int o.2.1, .int o.2.2.1, .int o.2.2.2.1, .int o.2.2.2.2.1, .int o.2.2.2.2.2.1, .ref q_steps, .ref q_goes, .int f_goesMany, .int f_roundSteps, .ref q_line, .int f_lineMany, .ref q_text, .int f_length, .int f_at, .int f_isWrong, .int f_errorAt, .ref q_orders, .int f_orderMany])), (q_s, .inl (g 0, 147, .inl o.2.2.2.2.2.2.1)), (q_before, .inl (g 0, 147, .inl o.2.2.2.2.2.2.2.1)), (q_past, .inl (g 0, 1176, .inl o.2.2.2.2.2.2.2.2))] := by
  refine z_wr_start (by decide) (Nat.le_of_ble_eq_true rfl) ?_
  intro p e s m args below meth c Q A X hr hQ hA
  refine z_lv (lv' := [(0, .ref q_this), (1, .int p1), (2, .int p2), (3, .int p3)]) rfl ?_
  refine z_aload_n X 0 dX12_house_0 rfl rfl ?_
  obtain ⟨o1, e2, h⟩ := bnd_p h
  refine z_wrV (rest := []) (q0 := 0) (ci := 12) (ws' := [(q_this, .inr (12, [.ref q_s, .ref q_before, .ref q_saved, .int f_isSaved, .ref q_past, .int f_pastMany, .int o1.1, .int f_reason, .int f_detail, .int f_isRefused, .ref q_steps, .ref q_goes, .int f_goesMany, .int f_roundSteps, .ref q_line, .int f_lineMany, .ref q_text, .int f_length, .int f_at, .int f_isWrong, .int f_errorAt, .ref q_orders, .int f_orderMany])), (q_s, .inl (g 0, 147, .inl a_s)), (q_before, .inl (g 0, 147, .inl o1.2)), (q_past, .inl (g 0, 1176, .inl a_past))]) (wr := [(q_past, .inl (g 0, 1176, .inl a_past))]) (as := [q_this, q_s, q_before, q_past]) X k_X12_keep (c_X12_keep l D g q_this q_s q_before q_saved q_past q_steps q_goes q_line q_text q_orders f_isSaved f_pastMany f_thrown f_reason f_detail f_isRefused f_goesMany f_roundSteps f_lineMany f_length f_at f_isWrong f_errorAt f_orderMany a_s a_before o1 e2) ql_X12_X12_keep dX12_house_1 [0, 1, 2] [3] ⟨rfl, rfl, rfl, rfl, rfl, rfl, rfl, rfl⟩ rfl rfl rfl rfl rfl ⟨Nat.le_of_ble_eq_true rfl, Nat.le_of_ble_eq_true rfl, rfl, rfl, Nat.le_of_ble_eq_true rfl, Nat.le_of_ble_eq_true rfl⟩ (Nat.le_of_ble_eq_true rfl) ?_
  refine z_aload_n X 0 dX12_house_4 rfl rfl ?_
  refine z_aload_n X 0 dX12_house_5 rfl rfl ?_
  refine z_iload_n X 1 dX12_house_6 rfl rfl ?_
  refine z_iload_n X 2 dX12_house_7 rfl rfl ?_
  refine z_iload_n X 3 dX12_house_8 rfl rfl ?_
  obtain ⟨o3, e4, h⟩ := bnd_p h
  refine z_wrV (rest := [.ref q_this]) (q0 := 0) (ci := 12) (ws' := [(q_this, .inr (12, [.ref q_s, .ref q_before, .ref q_saved, .int f_isSaved, .ref q_past, .int f_pastMany, .int o3.2.1, .int o3.2.2.1, .int o3.2.2.2.1, .int o3.2.2.2.2.1, .ref q_steps, .ref q_goes, .int f_goesMany, .int f_roundSteps, .ref q_line, .int f_lineMany, .ref q_text, .int f_length, .int f_at, .int f_isWrong, .int f_errorAt, .ref q_orders, .int f_orderMany])), (q_s, .inl (g 0, 147, .inl o3.2.2.2.2.2)), (q_before, .inl (g 0, 147, .inl o1.2)), (q_past, .inl (g 0, 1176, .inl a_past))]) (wr := [(q_before, .inl (g 0, 147, .inl o1.2)), (q_past, .inl (g 0, 1176, .inl a_past))]) (as := [q_this, q_s, q_before, q_past]) X k_X12_doHouse (c_X12_doHouse l D g q_this q_s q_before q_saved q_past q_steps q_goes q_line q_text q_orders p1 p2 p3 f_isSaved f_pastMany o1.1 f_reason f_detail f_isRefused f_goesMany f_roundSteps f_lineMany f_length f_at f_isWrong f_errorAt f_orderMany a_s o3 e4) ql_X12_X12_doHouse dX12_house_9 [0, 1] [2, 3] ⟨rfl, rfl, rfl, rfl, rfl, rfl, rfl, rfl⟩ rfl rfl rfl rfl rfl ⟨Nat.le_of_ble_eq_true rfl, Nat.le_of_ble_eq_true rfl, rfl, rfl, Nat.le_of_ble_eq_true rfl, Nat.le_of_ble_eq_true rfl⟩ (Nat.le_of_ble_eq_true rfl) ?_
  obtain ⟨o5, e6, h⟩ := bnd_p h
  refine z_wrV (rest := []) (q0 := 0) (ci := 12) (ws' := [(q_this, .inr (12, [.ref q_s, .ref q_before, .ref q_saved, .int f_isSaved, .ref q_past, .int o5.2.1, .int o3.2.1, .int o3.2.2.1, .int o3.2.2.2.1, .int o3.2.2.2.2.1, .ref q_steps, .ref q_goes, .int f_goesMany, .int f_roundSteps, .ref q_line, .int f_lineMany, .ref q_text, .int f_length, .int f_at, .int f_isWrong, .int f_errorAt, .ref q_orders, .int f_orderMany])), (q_s, .inl (g 0, 147, .inl o5.2.2.1)), (q_before, .inl (g 0, 147, .inl o1.2)), (q_past, .inl (g 0, 1176, .inl o5.2.2.2))]) (wr := []) (as := [q_this, q_s, q_before, q_past]) X k_X12_ends (c_X12_ends l D g q_this q_s q_before q_saved q_past q_steps q_goes q_line q_text q_orders o3.1 f_isSaved f_pastMany o3.2.1 o3.2.2.1 o3.2.2.2.1 o3.2.2.2.2.1 f_goesMany f_roundSteps f_lineMany f_length f_at f_isWrong f_errorAt f_orderMany o3.2.2.2.2.2 o1.2 a_past o5 e6) ql_X12_X12_ends dX12_house_12 [0, 1, 2, 3] [] ⟨rfl, rfl, rfl, rfl, rfl, rfl, rfl, rfl⟩ rfl rfl rfl rfl rfl ⟨Nat.le_of_ble_eq_true rfl, Nat.le_of_ble_eq_true rfl, rfl, rfl, Nat.le_of_ble_eq_true rfl, Nat.le_of_ble_eq_true rfl⟩ (Nat.le_of_ble_eq_true rfl) ?_
  cases h
  exact z_iretW X hQ hA hr dX12_house_15

def F_X12_doGoAway (p1 : Int32) (f_thrown : Int32) (a_s : Nat → Int32) : Option (Int32 × Int32 × (Nat → Int32)) :=
  bnd (F_X12_isHouse p1 a_s) (fun o1 => brn (o1 = 0) (bnd (F_X12_fails (1 : Int32) f_thrown) (fun o3 => some (o3.1, o3.2, a_s))) (grd (inb (2 : Int32) 147) (bnd (F_X12_at (p1 + (1 : Int32)) (0 : Int32)) (fun o5 => bnd (F_X12_at p1 (0 : Int32)) (fun o7 => grd (cpyok o5 o7 ((5 : Int32) * (((a_s (2 : Int32).toNatClampNeg) - (1 : Int32)) - p1)) 147 147) (grd (inb (2 : Int32) 147) (some ((a_s (2 : Int32).toNatClampNeg) - (1 : Int32), f_thrown, (upd (va_cpy a_s a_s o5.toNatClampNeg o7.toNatClampNeg ((5 : Int32) * (((a_s (2 : Int32).toNatClampNeg) - (1 : Int32)) - p1)).toNatClampNeg) (2 : Int32).toNatClampNeg ((a_s (2 : Int32).toNatClampNeg) - (1 : Int32)))))))))))
theorem dX12_doGoAway_0 : decode cX12_doGoAway 0 = .ok (.aload_n 0, 1) := by decide +kernel
theorem dX12_doGoAway_1 : decode cX12_doGoAway 1 = .ok (.iload_n 1, 1) := by decide +kernel
theorem dX12_doGoAway_2 : decode cX12_doGoAway 2 = .ok (.invokevirtual 110, 3) := by decide +kernel
theorem dX12_doGoAway_5 : decode cX12_doGoAway 5 = .ok (.ifCond .ne 9, 3) := by decide +kernel
theorem dX12_doGoAway_8 : decode cX12_doGoAway 8 = .ok (.aload_n 0, 1) := by decide +kernel
theorem dX12_doGoAway_9 : decode cX12_doGoAway 9 = .ok (.iconst 1, 1) := by decide +kernel
theorem dX12_doGoAway_10 : decode cX12_doGoAway 10 = .ok (.invokevirtual 88, 3) := by decide +kernel
theorem dX12_doGoAway_13 : decode cX12_doGoAway 13 = .ok (.ireturn, 1) := by decide +kernel
theorem dX12_doGoAway_14 : decode cX12_doGoAway 14 = .ok (.aload_n 0, 1) := by decide +kernel
theorem dX12_doGoAway_15 : decode cX12_doGoAway 15 = .ok (.getfield 9, 3) := by decide +kernel
theorem dX12_doGoAway_18 : decode cX12_doGoAway 18 = .ok (.iconst 2, 1) := by decide +kernel
theorem dX12_doGoAway_19 : decode cX12_doGoAway 19 = .ok (.iaload, 1) := by decide +kernel
theorem dX12_doGoAway_20 : decode cX12_doGoAway 20 = .ok (.iconst 1, 1) := by decide +kernel
theorem dX12_doGoAway_21 : decode cX12_doGoAway 21 = .ok (.isub, 1) := by decide +kernel
theorem dX12_doGoAway_22 : decode cX12_doGoAway 22 = .ok (.istore_n 2, 1) := by decide +kernel
theorem dX12_doGoAway_23 : decode cX12_doGoAway 23 = .ok (.aload_n 0, 1) := by decide +kernel
theorem dX12_doGoAway_24 : decode cX12_doGoAway 24 = .ok (.getfield 9, 3) := by decide +kernel
theorem dX12_doGoAway_27 : decode cX12_doGoAway 27 = .ok (.iload_n 1, 1) := by decide +kernel
theorem dX12_doGoAway_28 : decode cX12_doGoAway 28 = .ok (.iconst 1, 1) := by decide +kernel
theorem dX12_doGoAway_29 : decode cX12_doGoAway 29 = .ok (.iadd, 1) := by decide +kernel
theorem dX12_doGoAway_30 : decode cX12_doGoAway 30 = .ok (.iconst 0, 1) := by decide +kernel
theorem dX12_doGoAway_31 : decode cX12_doGoAway 31 = .ok (.invokestatic 68, 3) := by decide +kernel
theorem dX12_doGoAway_34 : decode cX12_doGoAway 34 = .ok (.aload_n 0, 1) := by decide +kernel
theorem dX12_doGoAway_35 : decode cX12_doGoAway 35 = .ok (.getfield 9, 3) := by decide +kernel
theorem dX12_doGoAway_38 : decode cX12_doGoAway 38 = .ok (.iload_n 1, 1) := by decide +kernel
theorem dX12_doGoAway_39 : decode cX12_doGoAway 39 = .ok (.iconst 0, 1) := by decide +kernel
theorem dX12_doGoAway_40 : decode cX12_doGoAway 40 = .ok (.invokestatic 68, 3) := by decide +kernel
theorem dX12_doGoAway_43 : decode cX12_doGoAway 43 = .ok (.iconst 5, 1) := by decide +kernel
theorem dX12_doGoAway_44 : decode cX12_doGoAway 44 = .ok (.iload_n 2, 1) := by decide +kernel
theorem dX12_doGoAway_45 : decode cX12_doGoAway 45 = .ok (.iload_n 1, 1) := by decide +kernel
theorem dX12_doGoAway_46 : decode cX12_doGoAway 46 = .ok (.isub, 1) := by decide +kernel
theorem dX12_doGoAway_47 : decode cX12_doGoAway 47 = .ok (.imul, 1) := by decide +kernel
theorem dX12_doGoAway_48 : decode cX12_doGoAway 48 = .ok (.invokestatic 45, 3) := by decide +kernel
theorem dX12_doGoAway_51 : decode cX12_doGoAway 51 = .ok (.aload_n 0, 1) := by decide +kernel
theorem dX12_doGoAway_52 : decode cX12_doGoAway 52 = .ok (.getfield 9, 3) := by decide +kernel
theorem dX12_doGoAway_55 : decode cX12_doGoAway 55 = .ok (.iconst 2, 1) := by decide +kernel
theorem dX12_doGoAway_56 : decode cX12_doGoAway 56 = .ok (.iload_n 2, 1) := by decide +kernel
theorem dX12_doGoAway_57 : decode cX12_doGoAway 57 = .ok (.iastore, 1) := by decide +kernel
theorem dX12_doGoAway_58 : decode cX12_doGoAway 58 = .ok (.iload_n 2, 1) := by decide +kernel
theorem dX12_doGoAway_59 : decode cX12_doGoAway 59 = .ok (.ireturn, 1) := by decide +kernel
theorem k_X12_doGoAway : cardV yX12_doGoAway (Cond.code yX12_doGoAway cX12_doGoAway 3 (some .int)) 1 := ⟨⟨qi_X12_doGoAway, qv_X12_doGoAway⟩, qc_X12_doGoAway, qn_X12, by decide +kernel, by decide +kernel, by decide +kernel⟩
set_option maxHeartbeats 4000000 in
set_option maxRecDepth 100000 in
theorem c_X12_doGoAway (l : Launch) (D : va_G) (g : Nat → ClassId) (q_this q_s q_before q_saved q_past q_steps q_goes q_line q_text q_orders : Nat) (p1 : Int32) (f_isSaved : Int32) (f_pastMany : Int32) (f_thrown : Int32) (f_reason : Int32) (f_detail : Int32) (f_isRefused : Int32) (f_goesMany : Int32) (f_roundSteps : Int32) (f_lineMany : Int32) (f_length : Int32) (f_at : Int32) (f_isWrong : Int32) (f_errorAt : Int32) (f_orderMany : Int32) (a_s : Nat → Int32) (o : Int32 × Int32 × (Nat → Int32)) (h : F_X12_doGoAway p1 f_thrown a_s = some o) : MW l yX12_doGoAway (Cond.code yX12_doGoAway cX12_doGoAway 3 (some .int)) { frames := 2, cells := 0, slots := 0, locals := 43 } D g [.ref q_this, .int p1] [(q_this, .inr (12, [.ref q_s, .ref q_before, .ref q_saved, .int f_isSaved, .ref q_past, .int f_pastMany, .int f_thrown, .int f_reason, .int f_detail, .int f_isRefused, .ref q_steps, .ref q_goes, .int f_goesMany, .int f_roundSteps, .ref q_line, .int f_lineMany, .ref q_text, .int f_length, .int f_at, .int f_isWrong, .int f_errorAt, .ref q_orders, .int f_orderMany])), (q_s, .inl (g 0, 147, .inl a_s))] (some (.int o.1)) [(q_this, .inr (12, [.ref q_s, .ref q_before, .ref q_saved, .int f_isSaved, .ref q_past, .int f_pastMany, .int o.2.1, .int f_reason, .int f_detail, .int f_isRefused, .ref q_steps, .ref q_goes, .int f_goesMany, .int f_roundSteps, .ref q_line, .int f_lineMany, .ref q_text, .int f_length, .int f_at, .int f_isWrong, .int f_errorAt, .ref q_orders, .int f_orderMany])), (q_s, .inl (g 0, 147, .inl o.2.2))] := by
  refine z_wr_start (by decide) (Nat.le_of_ble_eq_true rfl) ?_
  intro p e s m args below meth c Q A X hr hQ hA
  refine z_lv (lv' := [(0, .ref q_this), (1, .int p1)]) rfl ?_
  refine z_aload_n X 0 dX12_doGoAway_0 rfl rfl ?_
  refine z_iload_n X 1 dX12_doGoAway_1 rfl rfl ?_
  obtain ⟨o1, e2, h⟩ := bnd_p h
  refine z_rdV (rest := []) (q0 := 0) (ci := 12) X IW_P k_X12_isHouse (c_X12_isHouse l D g q_this q_s q_before q_saved q_past q_steps q_goes q_line q_text q_orders p1 f_isSaved f_pastMany f_thrown f_reason f_detail f_isRefused f_goesMany f_roundSteps f_lineMany f_length f_at f_isWrong f_errorAt f_orderMany a_s o1 e2) ql_X12_X12_isHouse dX12_doGoAway_2 [0, 1] rfl rfl rfl rfl rfl rfl ⟨Nat.le_of_ble_eq_true rfl, Nat.le_of_ble_eq_true rfl, rfl, rfl, Nat.le_of_ble_eq_true rfl, Nat.le_of_ble_eq_true rfl⟩ (Nat.le_of_ble_eq_true rfl) ?_
  refine z_if_ne X 14 dX12_doGoAway_5 (by decide) h (fun _ h => ?_) (fun _ h => ?_)
  · refine z_aload_n X 0 dX12_doGoAway_8 rfl rfl ?_
    refine z_iconst X (1 : Int32) dX12_doGoAway_9 (by decide) ?_
    obtain ⟨o3, e4, h⟩ := bnd_p h
    refine z_wrV (rest := []) (q0 := 0) (ci := 12) (ws' := [(q_this, .inr (12, [.ref q_s, .ref q_before, .ref q_saved, .int f_isSaved, .ref q_past, .int f_pastMany, .int o3.2, .int f_reason, .int f_detail, .int f_isRefused, .ref q_steps, .ref q_goes, .int f_goesMany, .int f_roundSteps, .ref q_line, .int f_lineMany, .ref q_text, .int f_length, .int f_at, .int f_isWrong, .int f_errorAt, .ref q_orders, .int f_orderMany])), (q_s, .inl (g 0, 147, .inl a_s))]) (wr := [(q_s, .inl (g 0, 147, .inl a_s))]) (as := [q_this, q_s]) X k_X12_fails (c_X12_fails l D g q_this q_s q_before q_saved q_past q_steps q_goes q_line q_text q_orders (1 : Int32) f_isSaved f_pastMany f_thrown f_reason f_detail f_isRefused f_goesMany f_roundSteps f_lineMany f_length f_at f_isWrong f_errorAt f_orderMany o3 e4) ql_X12_X12_fails dX12_doGoAway_10 [0] [1] ⟨rfl, rfl, rfl, rfl, rfl, rfl, rfl, rfl⟩ rfl rfl rfl rfl rfl ⟨Nat.le_of_ble_eq_true rfl, Nat.le_of_ble_eq_true rfl, rfl, rfl, Nat.le_of_ble_eq_true rfl, Nat.le_of_ble_eq_true rfl⟩ (Nat.le_of_ble_eq_true rfl) ?_
    cases h
    exact z_iretW X hQ hA hr dX12_doGoAway_13
  · refine z_aload_n X 0 dX12_doGoAway_14 rfl rfl ?_
    refine z_get (q0 := 0) (k := 0) (ci := 12) X IW_P iw_X12 rfl qf_X12_X12_s (by decide) dX12_doGoAway_15 rfl rfl ?_
    refine z_iconst X (2 : Int32) dX12_doGoAway_18 (by decide) ?_
    refine z_iald (q0 := 1) X IW_P dX12_doGoAway_19 rfl h (fun h => ?_)
    refine z_iconst X (1 : Int32) dX12_doGoAway_20 (by decide) ?_
    refine z_isub X dX12_doGoAway_21 ?_
    refine z_istore_n X [(2, .int ((a_s (2 : Int32).toNatClampNeg) - (1 : Int32))), (0, .ref q_this), (1, .int p1)] dX12_doGoAway_22 rfl (by decide) rfl ?_
    refine z_aload_n X 1 dX12_doGoAway_23 rfl rfl ?_
    refine z_get (q0 := 0) (k := 0) (ci := 12) X IW_P iw_X12 rfl qf_X12_X12_s (by decide) dX12_doGoAway_24 rfl rfl ?_
    refine z_iload_n X 2 dX12_doGoAway_27 rfl rfl ?_
    refine z_iconst X (1 : Int32) dX12_doGoAway_28 (by decide) ?_
    refine z_iadd X dX12_doGoAway_29 ?_
    refine z_iconst X (0 : Int32) dX12_doGoAway_30 (by decide) ?_
    obtain ⟨o5, e6, h⟩ := bnd_p h
    refine z_rdS (rest := [.ref q_s]) X IW_P k_X12_at (c_X12_at l D g (p1 + (1 : Int32)) (0 : Int32) o5 e6) ql_X12_X12_at dX12_doGoAway_31 [] rfl rfl rfl ⟨Nat.le_of_ble_eq_true rfl, Nat.le_of_ble_eq_true rfl, rfl, rfl, Nat.le_of_ble_eq_true rfl, Nat.le_of_ble_eq_true rfl⟩ (Nat.le_of_ble_eq_true rfl) ?_
    refine z_aload_n X 1 dX12_doGoAway_34 rfl rfl ?_
    refine z_get (q0 := 0) (k := 0) (ci := 12) X IW_P iw_X12 rfl qf_X12_X12_s (by decide) dX12_doGoAway_35 rfl rfl ?_
    refine z_iload_n X 2 dX12_doGoAway_38 rfl rfl ?_
    refine z_iconst X (0 : Int32) dX12_doGoAway_39 (by decide) ?_
    obtain ⟨o7, e8, h⟩ := bnd_p h
    refine z_rdS (rest := [.ref q_s, .int o5, .ref q_s]) X IW_P k_X12_at (c_X12_at l D g p1 (0 : Int32) o7 e8) ql_X12_X12_at dX12_doGoAway_40 [] rfl rfl rfl ⟨Nat.le_of_ble_eq_true rfl, Nat.le_of_ble_eq_true rfl, rfl, rfl, Nat.le_of_ble_eq_true rfl, Nat.le_of_ble_eq_true rfl⟩ (Nat.le_of_ble_eq_true rfl) ?_
    refine z_iconst X (5 : Int32) dX12_doGoAway_43 (by decide) ?_
    refine z_iload_n X 0 dX12_doGoAway_44 rfl rfl ?_
    refine z_iload_n X 2 dX12_doGoAway_45 rfl rfl ?_
    refine z_isub X dX12_doGoAway_46 ?_
    refine z_imul X dX12_doGoAway_47 ?_
    refine z_copyi (q0 := 1) (q1 := 1) (ws' := [(q_this, .inr (12, [.ref q_s, .ref q_before, .ref q_saved, .int f_isSaved, .ref q_past, .int f_pastMany, .int f_thrown, .int f_reason, .int f_detail, .int f_isRefused, .ref q_steps, .ref q_goes, .int f_goesMany, .int f_roundSteps, .ref q_line, .int f_lineMany, .ref q_text, .int f_length, .int f_at, .int f_isWrong, .int f_errorAt, .ref q_orders, .int f_orderMany])), (q_s, .inl (g 0, 147, .inl (va_cpy a_s a_s o5.toNatClampNeg o7.toNatClampNeg ((5 : Int32) * (((a_s (2 : Int32).toNatClampNeg) - (1 : Int32)) - p1)).toNatClampNeg)))]) X ql_X12_ac dX12_doGoAway_48 rfl rfl h rfl (Nat.le_of_ble_eq_true rfl) (Nat.le_of_ble_eq_true rfl) (fun h => ?_)
    refine z_aload_n X 1 dX12_doGoAway_51 rfl rfl ?_
    refine z_get (q0 := 0) (k := 0) (ci := 12) X IW_P iw_X12 rfl qf_X12_X12_s (by decide) dX12_doGoAway_52 rfl rfl ?_
    refine z_iconst X (2 : Int32) dX12_doGoAway_55 (by decide) ?_
    refine z_iload_n X 0 dX12_doGoAway_56 rfl rfl ?_
    refine z_iast (q0 := 1) (ws' := [(q_this, .inr (12, [.ref q_s, .ref q_before, .ref q_saved, .int f_isSaved, .ref q_past, .int f_pastMany, .int f_thrown, .int f_reason, .int f_detail, .int f_isRefused, .ref q_steps, .ref q_goes, .int f_goesMany, .int f_roundSteps, .ref q_line, .int f_lineMany, .ref q_text, .int f_length, .int f_at, .int f_isWrong, .int f_errorAt, .ref q_orders, .int f_orderMany])), (q_s, .inl (g 0, 147, .inl (upd (va_cpy a_s a_s o5.toNatClampNeg o7.toNatClampNeg ((5 : Int32) * (((a_s (2 : Int32).toNatClampNeg) - (1 : Int32)) - p1)).toNatClampNeg) (2 : Int32).toNatClampNeg ((a_s (2 : Int32).toNatClampNeg) - (1 : Int32)))))]) X dX12_doGoAway_57 rfl h rfl (fun h => ?_)
    refine z_iload_n X 0 dX12_doGoAway_58 rfl rfl ?_
    cases h
    exact z_iretW X hQ hA hr dX12_doGoAway_59

def F_X12_goAway (p1 : Int32) (f_pastMany : Int32) (f_thrown : Int32) (a_s : Nat → Int32) (a_before : Nat → Int32) (a_past : Nat → Int32) : Option (Int32 × Int32 × Int32 × (Nat → Int32) × (Nat → Int32) × (Nat → Int32)) :=
  bnd (F_X12_keep a_s f_thrown a_before) (fun o1 => bnd (F_X12_doGoAway p1 o1.1 a_s) (fun o3 => bnd (F_X12_ends o3.1 o3.2.1 o1.2 f_pastMany o3.2.2 a_past) (fun o5 => some (o5.1, o5.2.1, o3.2.1, o5.2.2.1, o1.2, o5.2.2.2))))
theorem dX12_goAway_0 : decode cX12_goAway 0 = .ok (.aload_n 0, 1) := by decide +kernel
theorem dX12_goAway_1 : decode cX12_goAway 1 = .ok (.invokevirtual 101, 3) := by decide +kernel
theorem dX12_goAway_4 : decode cX12_goAway 4 = .ok (.aload_n 0, 1) := by decide +kernel
theorem dX12_goAway_5 : decode cX12_goAway 5 = .ok (.aload_n 0, 1) := by decide +kernel
theorem dX12_goAway_6 : decode cX12_goAway 6 = .ok (.iload_n 1, 1) := by decide +kernel
theorem dX12_goAway_7 : decode cX12_goAway 7 = .ok (.invokevirtual 113, 3) := by decide +kernel
theorem dX12_goAway_10 : decode cX12_goAway 10 = .ok (.invokevirtual 107, 3) := by decide +kernel
theorem dX12_goAway_13 : decode cX12_goAway 13 = .ok (.ireturn, 1) := by decide +kernel
theorem k_X12_goAway : cardV yX12_goAway (Cond.code yX12_goAway cX12_goAway 2 (some .int)) 1 := ⟨⟨qi_X12_goAway, qv_X12_goAway⟩, qc_X12_goAway, qn_X12, by decide +kernel, by decide +kernel, by decide +kernel⟩
set_option maxHeartbeats 4000000 in
set_option maxRecDepth 100000 in
theorem c_X12_goAway (l : Launch) (D : va_G) (g : Nat → ClassId) (q_this q_s q_before q_saved q_past q_steps q_goes q_line q_text q_orders : Nat) (p1 : Int32) (f_isSaved : Int32) (f_pastMany : Int32) (f_thrown : Int32) (f_reason : Int32) (f_detail : Int32) (f_isRefused : Int32) (f_goesMany : Int32) (f_roundSteps : Int32) (f_lineMany : Int32) (f_length : Int32) (f_at : Int32) (f_isWrong : Int32) (f_errorAt : Int32) (f_orderMany : Int32) (a_s : Nat → Int32) (a_before : Nat → Int32) (a_past : Nat → Int32) (o : Int32 × Int32 × Int32 × (Nat → Int32) × (Nat → Int32) × (Nat → Int32)) (h : F_X12_goAway p1 f_pastMany f_thrown a_s a_before a_past = some o) : MW l yX12_goAway (Cond.code yX12_goAway cX12_goAway 2 (some .int)) { frames := 3, cells := 0, slots := 0, locals := 65 } D g [.ref q_this, .int p1] [(q_this, .inr (12, [.ref q_s, .ref q_before, .ref q_saved, .int f_isSaved, .ref q_past, .int f_pastMany, .int f_thrown, .int f_reason, .int f_detail, .int f_isRefused, .ref q_steps, .ref q_goes, .int f_goesMany, .int f_roundSteps, .ref q_line, .int f_lineMany, .ref q_text, .int f_length, .int f_at, .int f_isWrong, .int f_errorAt, .ref q_orders, .int f_orderMany])), (q_s, .inl (g 0, 147, .inl a_s)), (q_before, .inl (g 0, 147, .inl a_before)), (q_past, .inl (g 0, 1176, .inl a_past))] (some (.int o.1)) [(q_this, .inr (12, [.ref q_s, .ref q_before, .ref q_saved, .int f_isSaved, .ref q_past, .int o.2.1, .int o.2.2.1, .int f_reason, .int f_detail, .int f_isRefused, .ref q_steps, .ref q_goes, .int f_goesMany, .int f_roundSteps, .ref q_line, .int f_lineMany, .ref q_text, .int f_length, .int f_at, .int f_isWrong, .int f_errorAt, .ref q_orders, .int f_orderMany])), (q_s, .inl (g 0, 147, .inl o.2.2.2.1)), (q_before, .inl (g 0, 147, .inl o.2.2.2.2.1)), (q_past, .inl (g 0, 1176, .inl o.2.2.2.2.2))] := by
  refine z_wr_start (by decide) (Nat.le_of_ble_eq_true rfl) ?_
  intro p e s m args below meth c Q A X hr hQ hA
  refine z_lv (lv' := [(0, .ref q_this), (1, .int p1)]) rfl ?_
  refine z_aload_n X 0 dX12_goAway_0 rfl rfl ?_
  obtain ⟨o1, e2, h⟩ := bnd_p h
  refine z_wrV (rest := []) (q0 := 0) (ci := 12) (ws' := [(q_this, .inr (12, [.ref q_s, .ref q_before, .ref q_saved, .int f_isSaved, .ref q_past, .int f_pastMany, .int o1.1, .int f_reason, .int f_detail, .int f_isRefused, .ref q_steps, .ref q_goes, .int f_goesMany, .int f_roundSteps, .ref q_line, .int f_lineMany, .ref q_text, .int f_length, .int f_at, .int f_isWrong, .int f_errorAt, .ref q_orders, .int f_orderMany])), (q_s, .inl (g 0, 147, .inl a_s)), (q_before, .inl (g 0, 147, .inl o1.2)), (q_past, .inl (g 0, 1176, .inl a_past))]) (wr := [(q_past, .inl (g 0, 1176, .inl a_past))]) (as := [q_this, q_s, q_before, q_past]) X k_X12_keep (c_X12_keep l D g q_this q_s q_before q_saved q_past q_steps q_goes q_line q_text q_orders f_isSaved f_pastMany f_thrown f_reason f_detail f_isRefused f_goesMany f_roundSteps f_lineMany f_length f_at f_isWrong f_errorAt f_orderMany a_s a_before o1 e2) ql_X12_X12_keep dX12_goAway_1 [0, 1, 2] [3] ⟨rfl, rfl, rfl, rfl, rfl, rfl, rfl, rfl⟩ rfl rfl rfl rfl rfl ⟨Nat.le_of_ble_eq_true rfl, Nat.le_of_ble_eq_true rfl, rfl, rfl, Nat.le_of_ble_eq_true rfl, Nat.le_of_ble_eq_true rfl⟩ (Nat.le_of_ble_eq_true rfl) ?_
  refine z_aload_n X 0 dX12_goAway_4 rfl rfl ?_
  refine z_aload_n X 0 dX12_goAway_5 rfl rfl ?_
  refine z_iload_n X 1 dX12_goAway_6 rfl rfl ?_
  obtain ⟨o3, e4, h⟩ := bnd_p h
  refine z_wrV (rest := [.ref q_this]) (q0 := 0) (ci := 12) (ws' := [(q_this, .inr (12, [.ref q_s, .ref q_before, .ref q_saved, .int f_isSaved, .ref q_past, .int f_pastMany, .int o3.2.1, .int f_reason, .int f_detail, .int f_isRefused, .ref q_steps, .ref q_goes, .int f_goesMany, .int f_roundSteps, .ref q_line, .int f_lineMany, .ref q_text, .int f_length, .int f_at, .int f_isWrong, .int f_errorAt, .ref q_orders, .int f_orderMany])), (q_s, .inl (g 0, 147, .inl o3.2.2)), (q_before, .inl (g 0, 147, .inl o1.2)), (q_past, .inl (g 0, 1176, .inl a_past))]) (wr := [(q_before, .inl (g 0, 147, .inl o1.2)), (q_past, .inl (g 0, 1176, .inl a_past))]) (as := [q_this, q_s, q_before, q_past]) X k_X12_doGoAway (c_X12_doGoAway l D g q_this q_s q_before q_saved q_past q_steps q_goes q_line q_text q_orders p1 f_isSaved f_pastMany o1.1 f_reason f_detail f_isRefused f_goesMany f_roundSteps f_lineMany f_length f_at f_isWrong f_errorAt f_orderMany a_s o3 e4) ql_X12_X12_doGoAway dX12_goAway_7 [0, 1] [2, 3] ⟨rfl, rfl, rfl, rfl, rfl, rfl, rfl, rfl⟩ rfl rfl rfl rfl rfl ⟨Nat.le_of_ble_eq_true rfl, Nat.le_of_ble_eq_true rfl, rfl, rfl, Nat.le_of_ble_eq_true rfl, Nat.le_of_ble_eq_true rfl⟩ (Nat.le_of_ble_eq_true rfl) ?_
  obtain ⟨o5, e6, h⟩ := bnd_p h
  refine z_wrV (rest := []) (q0 := 0) (ci := 12) (ws' := [(q_this, .inr (12, [.ref q_s, .ref q_before, .ref q_saved, .int f_isSaved, .ref q_past, .int o5.2.1, .int o3.2.1, .int f_reason, .int f_detail, .int f_isRefused, .ref q_steps, .ref q_goes, .int f_goesMany, .int f_roundSteps, .ref q_line, .int f_lineMany, .ref q_text, .int f_length, .int f_at, .int f_isWrong, .int f_errorAt, .ref q_orders, .int f_orderMany])), (q_s, .inl (g 0, 147, .inl o5.2.2.1)), (q_before, .inl (g 0, 147, .inl o1.2)), (q_past, .inl (g 0, 1176, .inl o5.2.2.2))]) (wr := []) (as := [q_this, q_s, q_before, q_past]) X k_X12_ends (c_X12_ends l D g q_this q_s q_before q_saved q_past q_steps q_goes q_line q_text q_orders o3.1 f_isSaved f_pastMany o3.2.1 f_reason f_detail f_isRefused f_goesMany f_roundSteps f_lineMany f_length f_at f_isWrong f_errorAt f_orderMany o3.2.2 o1.2 a_past o5 e6) ql_X12_X12_ends dX12_goAway_10 [0, 1, 2, 3] [] ⟨rfl, rfl, rfl, rfl, rfl, rfl, rfl, rfl⟩ rfl rfl rfl rfl rfl ⟨Nat.le_of_ble_eq_true rfl, Nat.le_of_ble_eq_true rfl, rfl, rfl, Nat.le_of_ble_eq_true rfl, Nat.le_of_ble_eq_true rfl⟩ (Nat.le_of_ble_eq_true rfl) ?_
  cases h
  exact z_iretW X hQ hA hr dX12_goAway_13

def F_X12_doBlock (p1 : Int32) (f_thrown : Int32) (f_reason : Int32) (f_detail : Int32) (f_isRefused : Int32) (a_s : Nat → Int32) : Option (Int32 × Int32 × Int32 × Int32 × Int32 × (Nat → Int32)) :=
  bnd (F_X12_isCell p1) (fun o1 => brn (o1 = 0) (bnd (F_X12_fails (1 : Int32) f_thrown) (fun o3 => some (o3.1, o3.2, f_reason, f_detail, f_isRefused, a_s))) (bnd (F_X12_houseOn p1 a_s) (fun o5 => brn (o5 < 0) (grd (inb ((13 : Int32) + p1) 147) (grd (inb ((13 : Int32) + p1) 147) (grd (inb ((13 : Int32) + p1) 147) (some ((upd a_s ((13 : Int32) + p1).toNatClampNeg ((1 : Int32) - (a_s ((13 : Int32) + p1).toNatClampNeg))) ((13 : Int32) + p1).toNatClampNeg, f_thrown, f_reason, f_detail, f_isRefused, (upd a_s ((13 : Int32) + p1).toNatClampNeg ((1 : Int32) - (a_s ((13 : Int32) + p1).toNatClampNeg)))))))) (bnd (F_X12_houseOn p1 a_s) (fun o7 => bnd (F_X12_refuse (2 : Int32) (3 : Int32) o7 f_thrown f_reason f_detail f_isRefused) (fun o9 => some (o9.1, o9.2.1, o9.2.2.1, o9.2.2.2.1, o9.2.2.2.2, a_s)))))))
theorem dX12_doBlock_0 : decode cX12_doBlock 0 = .ok (.iload_n 1, 1) := by decide +kernel
theorem dX12_doBlock_1 : decode cX12_doBlock 1 = .ok (.invokestatic 81, 3) := by decide +kernel
theorem dX12_doBlock_4 : decode cX12_doBlock 4 = .ok (.ifCond .ne 9, 3) := by decide +kernel
theorem dX12_doBlock_7 : decode cX12_doBlock 7 = .ok (.aload_n 0, 1) := by decide +kernel
theorem dX12_doBlock_8 : decode cX12_doBlock 8 = .ok (.iconst 1, 1) := by decide +kernel
theorem dX12_doBlock_9 : decode cX12_doBlock 9 = .ok (.invokevirtual 88, 3) := by decide +kernel
theorem dX12_doBlock_12 : decode cX12_doBlock 12 = .ok (.ireturn, 1) := by decide +kernel
theorem dX12_doBlock_13 : decode cX12_doBlock 13 = .ok (.aload_n 0, 1) := by decide +kernel
theorem dX12_doBlock_14 : decode cX12_doBlock 14 = .ok (.iload_n 1, 1) := by decide +kernel
theorem dX12_doBlock_15 : decode cX12_doBlock 15 = .ok (.invokevirtual 98, 3) := by decide +kernel
theorem dX12_doBlock_18 : decode cX12_doBlock 18 = .ok (.ifCond .lt 15, 3) := by decide +kernel
theorem dX12_doBlock_21 : decode cX12_doBlock 21 = .ok (.aload_n 0, 1) := by decide +kernel
theorem dX12_doBlock_22 : decode cX12_doBlock 22 = .ok (.iconst 2, 1) := by decide +kernel
theorem dX12_doBlock_23 : decode cX12_doBlock 23 = .ok (.iconst 3, 1) := by decide +kernel
theorem dX12_doBlock_24 : decode cX12_doBlock 24 = .ok (.aload_n 0, 1) := by decide +kernel
theorem dX12_doBlock_25 : decode cX12_doBlock 25 = .ok (.iload_n 1, 1) := by decide +kernel
theorem dX12_doBlock_26 : decode cX12_doBlock 26 = .ok (.invokevirtual 98, 3) := by decide +kernel
theorem dX12_doBlock_29 : decode cX12_doBlock 29 = .ok (.invokevirtual 94, 3) := by decide +kernel
theorem dX12_doBlock_32 : decode cX12_doBlock 32 = .ok (.ireturn, 1) := by decide +kernel
theorem dX12_doBlock_33 : decode cX12_doBlock 33 = .ok (.aload_n 0, 1) := by decide +kernel
theorem dX12_doBlock_34 : decode cX12_doBlock 34 = .ok (.getfield 9, 3) := by decide +kernel
theorem dX12_doBlock_37 : decode cX12_doBlock 37 = .ok (.bipush 13, 2) := by decide +kernel
theorem dX12_doBlock_39 : decode cX12_doBlock 39 = .ok (.iload_n 1, 1) := by decide +kernel
theorem dX12_doBlock_40 : decode cX12_doBlock 40 = .ok (.iadd, 1) := by decide +kernel
theorem dX12_doBlock_41 : decode cX12_doBlock 41 = .ok (.iconst 1, 1) := by decide +kernel
theorem dX12_doBlock_42 : decode cX12_doBlock 42 = .ok (.aload_n 0, 1) := by decide +kernel
theorem dX12_doBlock_43 : decode cX12_doBlock 43 = .ok (.getfield 9, 3) := by decide +kernel
theorem dX12_doBlock_46 : decode cX12_doBlock 46 = .ok (.bipush 13, 2) := by decide +kernel
theorem dX12_doBlock_48 : decode cX12_doBlock 48 = .ok (.iload_n 1, 1) := by decide +kernel
theorem dX12_doBlock_49 : decode cX12_doBlock 49 = .ok (.iadd, 1) := by decide +kernel
theorem dX12_doBlock_50 : decode cX12_doBlock 50 = .ok (.iaload, 1) := by decide +kernel
theorem dX12_doBlock_51 : decode cX12_doBlock 51 = .ok (.isub, 1) := by decide +kernel
theorem dX12_doBlock_52 : decode cX12_doBlock 52 = .ok (.iastore, 1) := by decide +kernel
theorem dX12_doBlock_53 : decode cX12_doBlock 53 = .ok (.aload_n 0, 1) := by decide +kernel
theorem dX12_doBlock_54 : decode cX12_doBlock 54 = .ok (.getfield 9, 3) := by decide +kernel
theorem dX12_doBlock_57 : decode cX12_doBlock 57 = .ok (.bipush 13, 2) := by decide +kernel
theorem dX12_doBlock_59 : decode cX12_doBlock 59 = .ok (.iload_n 1, 1) := by decide +kernel
theorem dX12_doBlock_60 : decode cX12_doBlock 60 = .ok (.iadd, 1) := by decide +kernel
theorem dX12_doBlock_61 : decode cX12_doBlock 61 = .ok (.iaload, 1) := by decide +kernel
theorem dX12_doBlock_62 : decode cX12_doBlock 62 = .ok (.ireturn, 1) := by decide +kernel
theorem k_X12_doBlock : cardV yX12_doBlock (Cond.code yX12_doBlock cX12_doBlock 2 (some .int)) 1 := ⟨⟨qi_X12_doBlock, qv_X12_doBlock⟩, qc_X12_doBlock, qn_X12, by decide +kernel, by decide +kernel, by decide +kernel⟩
set_option maxHeartbeats 4000000 in
set_option maxRecDepth 100000 in
theorem c_X12_doBlock (l : Launch) (D : va_G) (g : Nat → ClassId) (q_this q_s q_before q_saved q_past q_steps q_goes q_line q_text q_orders : Nat) (p1 : Int32) (f_isSaved : Int32) (f_pastMany : Int32) (f_thrown : Int32) (f_reason : Int32) (f_detail : Int32) (f_isRefused : Int32) (f_goesMany : Int32) (f_roundSteps : Int32) (f_lineMany : Int32) (f_length : Int32) (f_at : Int32) (f_isWrong : Int32) (f_errorAt : Int32) (f_orderMany : Int32) (a_s : Nat → Int32) (o : Int32 × Int32 × Int32 × Int32 × Int32 × (Nat → Int32)) (h : F_X12_doBlock p1 f_thrown f_reason f_detail f_isRefused a_s = some o) : MW l yX12_doBlock (Cond.code yX12_doBlock cX12_doBlock 2 (some .int)) { frames := 3, cells := 0, slots := 0, locals := 65 } D g [.ref q_this, .int p1] [(q_this, .inr (12, [.ref q_s, .ref q_before, .ref q_saved, .int f_isSaved, .ref q_past, .int f_pastMany, .int f_thrown, .int f_reason, .int f_detail, .int f_isRefused, .ref q_steps, .ref q_goes, .int f_goesMany, .int f_roundSteps, .ref q_line, .int f_lineMany, .ref q_text, .int f_length, .int f_at, .int f_isWrong, .int f_errorAt, .ref q_orders, .int f_orderMany])), (q_s, .inl (g 0, 147, .inl a_s))] (some (.int o.1)) [(q_this, .inr (12, [.ref q_s, .ref q_before, .ref q_saved, .int f_isSaved, .ref q_past, .int f_pastMany, .int o.2.1, .int o.2.2.1, .int o.2.2.2.1, .int o.2.2.2.2.1, .ref q_steps, .ref q_goes, .int f_goesMany, .int f_roundSteps, .ref q_line, .int f_lineMany, .ref q_text, .int f_length, .int f_at, .int f_isWrong, .int f_errorAt, .ref q_orders, .int f_orderMany])), (q_s, .inl (g 0, 147, .inl o.2.2.2.2.2))] := by
  refine z_wr_start (by decide) (Nat.le_of_ble_eq_true rfl) ?_
  intro p e s m args below meth c Q A X hr hQ hA
  refine z_lv (lv' := [(0, .ref q_this), (1, .int p1)]) rfl ?_
  refine z_iload_n X 1 dX12_doBlock_0 rfl rfl ?_
  obtain ⟨o1, e2, h⟩ := bnd_p h
  refine z_rdS (rest := []) X IW_P k_X12_isCell (c_X12_isCell l D g p1 o1 e2) ql_X12_X12_isCell dX12_doBlock_1 [] rfl rfl rfl ⟨Nat.le_of_ble_eq_true rfl, Nat.le_of_ble_eq_true rfl, rfl, rfl, Nat.le_of_ble_eq_true rfl, Nat.le_of_ble_eq_true rfl⟩ (Nat.le_of_ble_eq_true rfl) ?_
  refine z_if_ne X 13 dX12_doBlock_4 (by decide) h (fun _ h => ?_) (fun _ h => ?_)
  · refine z_aload_n X 0 dX12_doBlock_7 rfl rfl ?_
    refine z_iconst X (1 : Int32) dX12_doBlock_8 (by decide) ?_
    obtain ⟨o3, e4, h⟩ := bnd_p h
    refine z_wrV (rest := []) (q0 := 0) (ci := 12) (ws' := [(q_this, .inr (12, [.ref q_s, .ref q_before, .ref q_saved, .int f_isSaved, .ref q_past, .int f_pastMany, .int o3.2, .int f_reason, .int f_detail, .int f_isRefused, .ref q_steps, .ref q_goes, .int f_goesMany, .int f_roundSteps, .ref q_line, .int f_lineMany, .ref q_text, .int f_length, .int f_at, .int f_isWrong, .int f_errorAt, .ref q_orders, .int f_orderMany])), (q_s, .inl (g 0, 147, .inl a_s))]) (wr := [(q_s, .inl (g 0, 147, .inl a_s))]) (as := [q_this, q_s]) X k_X12_fails (c_X12_fails l D g q_this q_s q_before q_saved q_past q_steps q_goes q_line q_text q_orders (1 : Int32) f_isSaved f_pastMany f_thrown f_reason f_detail f_isRefused f_goesMany f_roundSteps f_lineMany f_length f_at f_isWrong f_errorAt f_orderMany o3 e4) ql_X12_X12_fails dX12_doBlock_9 [0] [1] ⟨rfl, rfl, rfl, rfl, rfl, rfl, rfl, rfl⟩ rfl rfl rfl rfl rfl ⟨Nat.le_of_ble_eq_true rfl, Nat.le_of_ble_eq_true rfl, rfl, rfl, Nat.le_of_ble_eq_true rfl, Nat.le_of_ble_eq_true rfl⟩ (Nat.le_of_ble_eq_true rfl) ?_
    cases h
    exact z_iretW X hQ hA hr dX12_doBlock_12
  · refine z_aload_n X 0 dX12_doBlock_13 rfl rfl ?_
    refine z_iload_n X 1 dX12_doBlock_14 rfl rfl ?_
    obtain ⟨o5, e6, h⟩ := bnd_p h
    refine z_rdV (rest := []) (q0 := 0) (ci := 12) X IW_P k_X12_houseOn (c_X12_houseOn l D g q_this q_s q_before q_saved q_past q_steps q_goes q_line q_text q_orders p1 f_isSaved f_pastMany f_thrown f_reason f_detail f_isRefused f_goesMany f_roundSteps f_lineMany f_length f_at f_isWrong f_errorAt f_orderMany a_s o5 e6) ql_X12_X12_houseOn dX12_doBlock_15 [0, 1] rfl rfl rfl rfl rfl rfl ⟨Nat.le_of_ble_eq_true rfl, Nat.le_of_ble_eq_true rfl, rfl, rfl, Nat.le_of_ble_eq_true rfl, Nat.le_of_ble_eq_true rfl⟩ (Nat.le_of_ble_eq_true rfl) ?_
    refine z_if_lt X 33 dX12_doBlock_18 (by decide) h (fun _ h => ?_) (fun _ h => ?_)
    · refine z_aload_n X 0 dX12_doBlock_33 rfl rfl ?_
      refine z_get (q0 := 0) (k := 0) (ci := 12) X IW_P iw_X12 rfl qf_X12_X12_s (by decide) dX12_doBlock_34 rfl rfl ?_
      refine z_bipush X (13 : Int32) dX12_doBlock_37 (by decide) ?_
      refine z_iload_n X 1 dX12_doBlock_39 rfl rfl ?_
      refine z_iadd X dX12_doBlock_40 ?_
      refine z_iconst X (1 : Int32) dX12_doBlock_41 (by decide) ?_
      refine z_aload_n X 0 dX12_doBlock_42 rfl rfl ?_
      refine z_get (q0 := 0) (k := 0) (ci := 12) X IW_P iw_X12 rfl qf_X12_X12_s (by decide) dX12_doBlock_43 rfl rfl ?_
      refine z_bipush X (13 : Int32) dX12_doBlock_46 (by decide) ?_
      refine z_iload_n X 1 dX12_doBlock_48 rfl rfl ?_
      refine z_iadd X dX12_doBlock_49 ?_
      refine z_iald (q0 := 1) X IW_P dX12_doBlock_50 rfl h (fun h => ?_)
      refine z_isub X dX12_doBlock_51 ?_
      refine z_iast (q0 := 1) (ws' := [(q_this, .inr (12, [.ref q_s, .ref q_before, .ref q_saved, .int f_isSaved, .ref q_past, .int f_pastMany, .int f_thrown, .int f_reason, .int f_detail, .int f_isRefused, .ref q_steps, .ref q_goes, .int f_goesMany, .int f_roundSteps, .ref q_line, .int f_lineMany, .ref q_text, .int f_length, .int f_at, .int f_isWrong, .int f_errorAt, .ref q_orders, .int f_orderMany])), (q_s, .inl (g 0, 147, .inl (upd a_s ((13 : Int32) + p1).toNatClampNeg ((1 : Int32) - (a_s ((13 : Int32) + p1).toNatClampNeg)))))]) X dX12_doBlock_52 rfl h rfl (fun h => ?_)
      refine z_aload_n X 0 dX12_doBlock_53 rfl rfl ?_
      refine z_get (q0 := 0) (k := 0) (ci := 12) X IW_P iw_X12 rfl qf_X12_X12_s (by decide) dX12_doBlock_54 rfl rfl ?_
      refine z_bipush X (13 : Int32) dX12_doBlock_57 (by decide) ?_
      refine z_iload_n X 1 dX12_doBlock_59 rfl rfl ?_
      refine z_iadd X dX12_doBlock_60 ?_
      refine z_iald (q0 := 1) X IW_P dX12_doBlock_61 rfl h (fun h => ?_)
      cases h
      exact z_iretW X hQ hA hr dX12_doBlock_62
    · refine z_aload_n X 0 dX12_doBlock_21 rfl rfl ?_
      refine z_iconst X (2 : Int32) dX12_doBlock_22 (by decide) ?_
      refine z_iconst X (3 : Int32) dX12_doBlock_23 (by decide) ?_
      refine z_aload_n X 0 dX12_doBlock_24 rfl rfl ?_
      refine z_iload_n X 1 dX12_doBlock_25 rfl rfl ?_
      obtain ⟨o7, e8, h⟩ := bnd_p h
      refine z_rdV (rest := [.int (3 : Int32), .int (2 : Int32), .ref q_this]) (q0 := 0) (ci := 12) X IW_P k_X12_houseOn (c_X12_houseOn l D g q_this q_s q_before q_saved q_past q_steps q_goes q_line q_text q_orders p1 f_isSaved f_pastMany f_thrown f_reason f_detail f_isRefused f_goesMany f_roundSteps f_lineMany f_length f_at f_isWrong f_errorAt f_orderMany a_s o7 e8) ql_X12_X12_houseOn dX12_doBlock_26 [0, 1] rfl rfl rfl rfl rfl rfl ⟨Nat.le_of_ble_eq_true rfl, Nat.le_of_ble_eq_true rfl, rfl, rfl, Nat.le_of_ble_eq_true rfl, Nat.le_of_ble_eq_true rfl⟩ (Nat.le_of_ble_eq_true rfl) ?_
      obtain ⟨o9, e10, h⟩ := bnd_p h
      refine z_wrV (rest := []) (q0 := 0) (ci := 12) (ws' := [(q_this, .inr (12, [.ref q_s, .ref q_before, .ref q_saved, .int f_isSaved, .ref q_past, .int f_pastMany, .int o9.2.1, .int o9.2.2.1, .int o9.2.2.2.1, .int o9.2.2.2.2, .ref q_steps, .ref q_goes, .int f_goesMany, .int f_roundSteps, .ref q_line, .int f_lineMany, .ref q_text, .int f_length, .int f_at, .int f_isWrong, .int f_errorAt, .ref q_orders, .int f_orderMany])), (q_s, .inl (g 0, 147, .inl a_s))]) (wr := [(q_s, .inl (g 0, 147, .inl a_s))]) (as := [q_this, q_s]) X k_X12_refuse (c_X12_refuse l D g q_this q_s q_before q_saved q_past q_steps q_goes q_line q_text q_orders (2 : Int32) (3 : Int32) o7 f_isSaved f_pastMany f_thrown f_reason f_detail f_isRefused f_goesMany f_roundSteps f_lineMany f_length f_at f_isWrong f_errorAt f_orderMany o9 e10) ql_X12_X12_refuse dX12_doBlock_29 [0] [1] ⟨rfl, rfl, rfl, rfl, rfl, rfl, rfl, rfl⟩ rfl rfl rfl rfl rfl ⟨Nat.le_of_ble_eq_true rfl, Nat.le_of_ble_eq_true rfl, rfl, rfl, Nat.le_of_ble_eq_true rfl, Nat.le_of_ble_eq_true rfl⟩ (Nat.le_of_ble_eq_true rfl) ?_
      cases h
      exact z_iretW X hQ hA hr dX12_doBlock_32

def F_X12_block (p1 : Int32) (f_pastMany : Int32) (f_thrown : Int32) (f_reason : Int32) (f_detail : Int32) (f_isRefused : Int32) (a_s : Nat → Int32) (a_before : Nat → Int32) (a_past : Nat → Int32) : Option (Int32 × Int32 × Int32 × Int32 × Int32 × Int32 × (Nat → Int32) × (Nat → Int32) × (Nat → Int32)) :=
  bnd (F_X12_keep a_s f_thrown a_before) (fun o1 => bnd (F_X12_doBlock p1 o1.1 f_reason f_detail f_isRefused a_s) (fun o3 => bnd (F_X12_ends o3.1 o3.2.1 o1.2 f_pastMany o3.2.2.2.2.2 a_past) (fun o5 => brn (o5.1 = (1 : Int32)) (some ((1 : Int32), o5.2.1, o3.2.1, o3.2.2.1, o3.2.2.2.1, o3.2.2.2.2.1, o5.2.2.1, o1.2, o5.2.2.2)) (some ((0 : Int32), o5.2.1, o3.2.1, o3.2.2.1, o3.2.2.2.1, o3.2.2.2.2.1, o5.2.2.1, o1.2, o5.2.2.2)))))
theorem dX12_block_0 : decode cX12_block 0 = .ok (.aload_n 0, 1) := by decide +kernel
theorem dX12_block_1 : decode cX12_block 1 = .ok (.invokevirtual 101, 3) := by decide +kernel
theorem dX12_block_4 : decode cX12_block 4 = .ok (.aload_n 0, 1) := by decide +kernel
theorem dX12_block_5 : decode cX12_block 5 = .ok (.aload_n 0, 1) := by decide +kernel
theorem dX12_block_6 : decode cX12_block 6 = .ok (.iload_n 1, 1) := by decide +kernel
theorem dX12_block_7 : decode cX12_block 7 = .ok (.invokevirtual 116, 3) := by decide +kernel
theorem dX12_block_10 : decode cX12_block 10 = .ok (.invokevirtual 107, 3) := by decide +kernel
theorem dX12_block_13 : decode cX12_block 13 = .ok (.iconst 1, 1) := by decide +kernel
theorem dX12_block_14 : decode cX12_block 14 = .ok (.if_icmp .ne 7, 3) := by decide +kernel
theorem dX12_block_17 : decode cX12_block 17 = .ok (.iconst 1, 1) := by decide +kernel
theorem dX12_block_18 : decode cX12_block 18 = .ok (.goto 4, 3) := by decide +kernel
theorem dX12_block_21 : decode cX12_block 21 = .ok (.iconst 0, 1) := by decide +kernel
theorem dX12_block_22 : decode cX12_block 22 = .ok (.ireturn, 1) := by decide +kernel
theorem k_X12_block : cardV yX12_block (Cond.code yX12_block cX12_block 2 (some .boolean)) 1 := ⟨⟨qi_X12_block, qv_X12_block⟩, qc_X12_block, qn_X12, by decide +kernel, by decide +kernel, by decide +kernel⟩
set_option maxHeartbeats 4000000 in
set_option maxRecDepth 100000 in
theorem c_X12_block (l : Launch) (D : va_G) (g : Nat → ClassId) (q_this q_s q_before q_saved q_past q_steps q_goes q_line q_text q_orders : Nat) (p1 : Int32) (f_isSaved : Int32) (f_pastMany : Int32) (f_thrown : Int32) (f_reason : Int32) (f_detail : Int32) (f_isRefused : Int32) (f_goesMany : Int32) (f_roundSteps : Int32) (f_lineMany : Int32) (f_length : Int32) (f_at : Int32) (f_isWrong : Int32) (f_errorAt : Int32) (f_orderMany : Int32) (a_s : Nat → Int32) (a_before : Nat → Int32) (a_past : Nat → Int32) (o : Int32 × Int32 × Int32 × Int32 × Int32 × Int32 × (Nat → Int32) × (Nat → Int32) × (Nat → Int32)) (h : F_X12_block p1 f_pastMany f_thrown f_reason f_detail f_isRefused a_s a_before a_past = some o) : MW l yX12_block (Cond.code yX12_block cX12_block 2 (some .boolean)) { frames := 4, cells := 0, slots := 0, locals := 86 } D g [.ref q_this, .int p1] [(q_this, .inr (12, [.ref q_s, .ref q_before, .ref q_saved, .int f_isSaved, .ref q_past, .int f_pastMany, .int f_thrown, .int f_reason, .int f_detail, .int f_isRefused, .ref q_steps, .ref q_goes, .int f_goesMany, .int f_roundSteps, .ref q_line, .int f_lineMany, .ref q_text, .int f_length, .int f_at, .int f_isWrong, .int f_errorAt, .ref q_orders, .int f_orderMany])), (q_s, .inl (g 0, 147, .inl a_s)), (q_before, .inl (g 0, 147, .inl a_before)), (q_past, .inl (g 0, 1176, .inl a_past))] (some (.int o.1)) [(q_this, .inr (12, [.ref q_s, .ref q_before, .ref q_saved, .int f_isSaved, .ref q_past, .int o.2.1, .int o.2.2.1, .int o.2.2.2.1, .int o.2.2.2.2.1, .int o.2.2.2.2.2.1, .ref q_steps, .ref q_goes, .int f_goesMany, .int f_roundSteps, .ref q_line, .int f_lineMany, .ref q_text, .int f_length, .int f_at, .int f_isWrong, .int f_errorAt, .ref q_orders, .int f_orderMany])), (q_s, .inl (g 0, 147, .inl o.2.2.2.2.2.2.1)), (q_before, .inl (g 0, 147, .inl o.2.2.2.2.2.2.2.1)), (q_past, .inl (g 0, 1176, .inl o.2.2.2.2.2.2.2.2))] := by
  refine z_wr_start (by decide) (Nat.le_of_ble_eq_true rfl) ?_
  intro p e s m args below meth c Q A X hr hQ hA
  refine z_lv (lv' := [(0, .ref q_this), (1, .int p1)]) rfl ?_
  refine z_aload_n X 0 dX12_block_0 rfl rfl ?_
  obtain ⟨o1, e2, h⟩ := bnd_p h
  refine z_wrV (rest := []) (q0 := 0) (ci := 12) (ws' := [(q_this, .inr (12, [.ref q_s, .ref q_before, .ref q_saved, .int f_isSaved, .ref q_past, .int f_pastMany, .int o1.1, .int f_reason, .int f_detail, .int f_isRefused, .ref q_steps, .ref q_goes, .int f_goesMany, .int f_roundSteps, .ref q_line, .int f_lineMany, .ref q_text, .int f_length, .int f_at, .int f_isWrong, .int f_errorAt, .ref q_orders, .int f_orderMany])), (q_s, .inl (g 0, 147, .inl a_s)), (q_before, .inl (g 0, 147, .inl o1.2)), (q_past, .inl (g 0, 1176, .inl a_past))]) (wr := [(q_past, .inl (g 0, 1176, .inl a_past))]) (as := [q_this, q_s, q_before, q_past]) X k_X12_keep (c_X12_keep l D g q_this q_s q_before q_saved q_past q_steps q_goes q_line q_text q_orders f_isSaved f_pastMany f_thrown f_reason f_detail f_isRefused f_goesMany f_roundSteps f_lineMany f_length f_at f_isWrong f_errorAt f_orderMany a_s a_before o1 e2) ql_X12_X12_keep dX12_block_1 [0, 1, 2] [3] ⟨rfl, rfl, rfl, rfl, rfl, rfl, rfl, rfl⟩ rfl rfl rfl rfl rfl ⟨Nat.le_of_ble_eq_true rfl, Nat.le_of_ble_eq_true rfl, rfl, rfl, Nat.le_of_ble_eq_true rfl, Nat.le_of_ble_eq_true rfl⟩ (Nat.le_of_ble_eq_true rfl) ?_
  refine z_aload_n X 0 dX12_block_4 rfl rfl ?_
  refine z_aload_n X 0 dX12_block_5 rfl rfl ?_
  refine z_iload_n X 1 dX12_block_6 rfl rfl ?_
  obtain ⟨o3, e4, h⟩ := bnd_p h
  refine z_wrV (rest := [.ref q_this]) (q0 := 0) (ci := 12) (ws' := [(q_this, .inr (12, [.ref q_s, .ref q_before, .ref q_saved, .int f_isSaved, .ref q_past, .int f_pastMany, .int o3.2.1, .int o3.2.2.1, .int o3.2.2.2.1, .int o3.2.2.2.2.1, .ref q_steps, .ref q_goes, .int f_goesMany, .int f_roundSteps, .ref q_line, .int f_lineMany, .ref q_text, .int f_length, .int f_at, .int f_isWrong, .int f_errorAt, .ref q_orders, .int f_orderMany])), (q_s, .inl (g 0, 147, .inl o3.2.2.2.2.2)), (q_before, .inl (g 0, 147, .inl o1.2)), (q_past, .inl (g 0, 1176, .inl a_past))]) (wr := [(q_before, .inl (g 0, 147, .inl o1.2)), (q_past, .inl (g 0, 1176, .inl a_past))]) (as := [q_this, q_s, q_before, q_past]) X k_X12_doBlock (c_X12_doBlock l D g q_this q_s q_before q_saved q_past q_steps q_goes q_line q_text q_orders p1 f_isSaved f_pastMany o1.1 f_reason f_detail f_isRefused f_goesMany f_roundSteps f_lineMany f_length f_at f_isWrong f_errorAt f_orderMany a_s o3 e4) ql_X12_X12_doBlock dX12_block_7 [0, 1] [2, 3] ⟨rfl, rfl, rfl, rfl, rfl, rfl, rfl, rfl⟩ rfl rfl rfl rfl rfl ⟨Nat.le_of_ble_eq_true rfl, Nat.le_of_ble_eq_true rfl, rfl, rfl, Nat.le_of_ble_eq_true rfl, Nat.le_of_ble_eq_true rfl⟩ (Nat.le_of_ble_eq_true rfl) ?_
  obtain ⟨o5, e6, h⟩ := bnd_p h
  refine z_wrV (rest := []) (q0 := 0) (ci := 12) (ws' := [(q_this, .inr (12, [.ref q_s, .ref q_before, .ref q_saved, .int f_isSaved, .ref q_past, .int o5.2.1, .int o3.2.1, .int o3.2.2.1, .int o3.2.2.2.1, .int o3.2.2.2.2.1, .ref q_steps, .ref q_goes, .int f_goesMany, .int f_roundSteps, .ref q_line, .int f_lineMany, .ref q_text, .int f_length, .int f_at, .int f_isWrong, .int f_errorAt, .ref q_orders, .int f_orderMany])), (q_s, .inl (g 0, 147, .inl o5.2.2.1)), (q_before, .inl (g 0, 147, .inl o1.2)), (q_past, .inl (g 0, 1176, .inl o5.2.2.2))]) (wr := []) (as := [q_this, q_s, q_before, q_past]) X k_X12_ends (c_X12_ends l D g q_this q_s q_before q_saved q_past q_steps q_goes q_line q_text q_orders o3.1 f_isSaved f_pastMany o3.2.1 o3.2.2.1 o3.2.2.2.1 o3.2.2.2.2.1 f_goesMany f_roundSteps f_lineMany f_length f_at f_isWrong f_errorAt f_orderMany o3.2.2.2.2.2 o1.2 a_past o5 e6) ql_X12_X12_ends dX12_block_10 [0, 1, 2, 3] [] ⟨rfl, rfl, rfl, rfl, rfl, rfl, rfl, rfl⟩ rfl rfl rfl rfl rfl ⟨Nat.le_of_ble_eq_true rfl, Nat.le_of_ble_eq_true rfl, rfl, rfl, Nat.le_of_ble_eq_true rfl, Nat.le_of_ble_eq_true rfl⟩ (Nat.le_of_ble_eq_true rfl) ?_
  refine z_iconst X (1 : Int32) dX12_block_13 (by decide) ?_
  refine z_icmp_ne X 21 dX12_block_14 (by decide) h (fun _ h => ?_) (fun _ h => ?_)
  · refine z_iconst X (1 : Int32) dX12_block_17 (by decide) ?_
    refine z_goto X 22 dX12_block_18 (by decide) ?_
    cases h
    exact z_zretW X hQ hA hr dX12_block_22 rfl
  · refine z_iconst X (0 : Int32) dX12_block_21 (by decide) ?_
    cases h
    exact z_zretW X hQ hA hr dX12_block_22 rfl

def J_X12_doHall_33 (p1 : Int32) (p2 : Int32) (p3 : Int32) (f_thrown : Int32) (f_reason : Int32) (f_detail : Int32) (f_isRefused : Int32) (a_s : Nat → Int32) : Option (Int32 × Int32 × Int32 × Int32 × Int32 × (Nat → Int32)) :=
  bnd (F_X12_fails (1 : Int32) f_thrown) (fun o3 => some (o3.1, o3.2, f_reason, f_detail, f_isRefused, a_s))

def L_X12_doHall_42 (p1 : Int32) (p2 : Int32) (p3 : Int32) : Nat → Int32 → Int32 → (Int32) → (Int32) → (Int32) → (Int32) → (Nat → Int32) → Option (Int32 × Int32 × Int32 × Int32 × Int32 × (Nat → Int32))
  | 0, _, _, _, _, _, _, _ => none
  | _n + 1, x4, x5, f_thrown, f_reason, f_detail, f_isRefused, a_s =>
    brn (p3 < x5) (brn (x4 = (4 : Int32)) (bnd (F_X12_refuse (2 : Int32) (1 : Int32) (4 : Int32) f_thrown f_reason f_detail f_isRefused) (fun o7 => some (o7.1, o7.2.1, o7.2.2.1, o7.2.2.2.1, o7.2.2.2.2, a_s))) (grd (inb ((127 : Int32) + ((3 : Int32) * x4)) 147) (grd (inb (((127 : Int32) + ((3 : Int32) * x4)) + (1 : Int32)) 147) (grd (inb (((127 : Int32) + ((3 : Int32) * x4)) + (2 : Int32)) 147) (grd (inb (3 : Int32) 147) (grd (inb (3 : Int32) 147) (some (x4, f_thrown, f_reason, f_detail, f_isRefused, (upd (upd (upd (upd a_s ((127 : Int32) + ((3 : Int32) * x4)).toNatClampNeg p1) (((127 : Int32) + ((3 : Int32) * x4)) + (1 : Int32)).toNatClampNeg p2) (((127 : Int32) + ((3 : Int32) * x4)) + (2 : Int32)).toNatClampNeg p3) (3 : Int32).toNatClampNeg (((upd (upd (upd a_s ((127 : Int32) + ((3 : Int32) * x4)).toNatClampNeg p1) (((127 : Int32) + ((3 : Int32) * x4)) + (1 : Int32)).toNatClampNeg p2) (((127 : Int32) + ((3 : Int32) * x4)) + (2 : Int32)).toNatClampNeg p3) (3 : Int32).toNatClampNeg) + (1 : Int32))))))))))) (bnd (F_X12_hallOn (((8 : Int32) * p1) + x5) a_s) (fun o9 => brn (o9 < 0) (L_X12_doHall_42 p1 p2 p3 _n x4 (x5 + 1) f_thrown f_reason f_detail f_isRefused a_s) (bnd (F_X12_refuse (2 : Int32) (4 : Int32) (((8 : Int32) * p1) + x5) f_thrown f_reason f_detail f_isRefused) (fun o11 => some (o11.1, o11.2.1, o11.2.2.1, o11.2.2.2.1, o11.2.2.2.2, a_s)))))

def F_X12_doHall (p1 : Int32) (p2 : Int32) (p3 : Int32) (f_thrown : Int32) (f_reason : Int32) (f_detail : Int32) (f_isRefused : Int32) (a_s : Nat → Int32) : Option (Int32 × Int32 × Int32 × Int32 × Int32 × (Nat → Int32)) :=
  grd (inb (3 : Int32) 147) (bnd (F_X12_in p1 (0 : Int32) (7 : Int32)) (fun o1 => brn (o1 = 0) (J_X12_doHall_33 p1 p2 p3 f_thrown f_reason f_detail f_isRefused a_s) (bnd (F_X12_in p2 (0 : Int32) p3) (fun o5 => brn (o5 = 0) (J_X12_doHall_33 p1 p2 p3 f_thrown f_reason f_detail f_isRefused a_s) (brn (p3 < (8 : Int32)) (L_X12_doHall_42 p1 p2 p3 100 (a_s (3 : Int32).toNatClampNeg) p2 f_thrown f_reason f_detail f_isRefused a_s) (J_X12_doHall_33 p1 p2 p3 f_thrown f_reason f_detail f_isRefused a_s))))))
theorem dX12_doHall_0 : decode cX12_doHall 0 = .ok (.aload_n 0, 1) := by decide +kernel
theorem dX12_doHall_1 : decode cX12_doHall 1 = .ok (.getfield 9, 3) := by decide +kernel
theorem dX12_doHall_4 : decode cX12_doHall 4 = .ok (.iconst 3, 1) := by decide +kernel
theorem dX12_doHall_5 : decode cX12_doHall 5 = .ok (.iaload, 1) := by decide +kernel
theorem dX12_doHall_6 : decode cX12_doHall 6 = .ok (.istore 4, 2) := by decide +kernel
theorem dX12_doHall_8 : decode cX12_doHall 8 = .ok (.iload_n 1, 1) := by decide +kernel
theorem dX12_doHall_9 : decode cX12_doHall 9 = .ok (.iconst 0, 1) := by decide +kernel
theorem dX12_doHall_10 : decode cX12_doHall 10 = .ok (.bipush 7, 2) := by decide +kernel
theorem dX12_doHall_12 : decode cX12_doHall 12 = .ok (.invokestatic 64, 3) := by decide +kernel
theorem dX12_doHall_15 : decode cX12_doHall 15 = .ok (.ifCond .eq 18, 3) := by decide +kernel
theorem dX12_doHall_18 : decode cX12_doHall 18 = .ok (.iload_n 2, 1) := by decide +kernel
theorem dX12_doHall_19 : decode cX12_doHall 19 = .ok (.iconst 0, 1) := by decide +kernel
theorem dX12_doHall_20 : decode cX12_doHall 20 = .ok (.iload_n 3, 1) := by decide +kernel
theorem dX12_doHall_21 : decode cX12_doHall 21 = .ok (.invokestatic 64, 3) := by decide +kernel
theorem dX12_doHall_24 : decode cX12_doHall 24 = .ok (.ifCond .eq 9, 3) := by decide +kernel
theorem dX12_doHall_27 : decode cX12_doHall 27 = .ok (.iload_n 3, 1) := by decide +kernel
theorem dX12_doHall_28 : decode cX12_doHall 28 = .ok (.bipush 8, 2) := by decide +kernel
theorem dX12_doHall_30 : decode cX12_doHall 30 = .ok (.if_icmp .lt 9, 3) := by decide +kernel
theorem dX12_doHall_33 : decode cX12_doHall 33 = .ok (.aload_n 0, 1) := by decide +kernel
theorem dX12_doHall_34 : decode cX12_doHall 34 = .ok (.iconst 1, 1) := by decide +kernel
theorem dX12_doHall_35 : decode cX12_doHall 35 = .ok (.invokevirtual 88, 3) := by decide +kernel
theorem dX12_doHall_38 : decode cX12_doHall 38 = .ok (.ireturn, 1) := by decide +kernel
theorem dX12_doHall_39 : decode cX12_doHall 39 = .ok (.iload_n 2, 1) := by decide +kernel
theorem dX12_doHall_40 : decode cX12_doHall 40 = .ok (.istore 5, 2) := by decide +kernel
theorem dX12_doHall_42 : decode cX12_doHall 42 = .ok (.iload 5, 2) := by decide +kernel
theorem dX12_doHall_44 : decode cX12_doHall 44 = .ok (.iload_n 3, 1) := by decide +kernel
theorem dX12_doHall_45 : decode cX12_doHall 45 = .ok (.if_icmp .gt 37, 3) := by decide +kernel
theorem dX12_doHall_48 : decode cX12_doHall 48 = .ok (.aload_n 0, 1) := by decide +kernel
theorem dX12_doHall_49 : decode cX12_doHall 49 = .ok (.bipush 8, 2) := by decide +kernel
theorem dX12_doHall_51 : decode cX12_doHall 51 = .ok (.iload_n 1, 1) := by decide +kernel
theorem dX12_doHall_52 : decode cX12_doHall 52 = .ok (.imul, 1) := by decide +kernel
theorem dX12_doHall_53 : decode cX12_doHall 53 = .ok (.iload 5, 2) := by decide +kernel
theorem dX12_doHall_55 : decode cX12_doHall 55 = .ok (.iadd, 1) := by decide +kernel
theorem dX12_doHall_56 : decode cX12_doHall 56 = .ok (.invokevirtual 119, 3) := by decide +kernel
theorem dX12_doHall_59 : decode cX12_doHall 59 = .ok (.ifCond .lt 17, 3) := by decide +kernel
theorem dX12_doHall_62 : decode cX12_doHall 62 = .ok (.aload_n 0, 1) := by decide +kernel
theorem dX12_doHall_63 : decode cX12_doHall 63 = .ok (.iconst 2, 1) := by decide +kernel
theorem dX12_doHall_64 : decode cX12_doHall 64 = .ok (.iconst 4, 1) := by decide +kernel
theorem dX12_doHall_65 : decode cX12_doHall 65 = .ok (.bipush 8, 2) := by decide +kernel
theorem dX12_doHall_67 : decode cX12_doHall 67 = .ok (.iload_n 1, 1) := by decide +kernel
theorem dX12_doHall_68 : decode cX12_doHall 68 = .ok (.imul, 1) := by decide +kernel
theorem dX12_doHall_69 : decode cX12_doHall 69 = .ok (.iload 5, 2) := by decide +kernel
theorem dX12_doHall_71 : decode cX12_doHall 71 = .ok (.iadd, 1) := by decide +kernel
theorem dX12_doHall_72 : decode cX12_doHall 72 = .ok (.invokevirtual 94, 3) := by decide +kernel
theorem dX12_doHall_75 : decode cX12_doHall 75 = .ok (.ireturn, 1) := by decide +kernel
theorem dX12_doHall_76 : decode cX12_doHall 76 = .ok (.iinc 5 1, 3) := by decide +kernel
theorem dX12_doHall_79 : decode cX12_doHall 79 = .ok (.goto (-37), 3) := by decide +kernel
theorem dX12_doHall_82 : decode cX12_doHall 82 = .ok (.iload 4, 2) := by decide +kernel
theorem dX12_doHall_84 : decode cX12_doHall 84 = .ok (.iconst 4, 1) := by decide +kernel
theorem dX12_doHall_85 : decode cX12_doHall 85 = .ok (.if_icmp .ne 11, 3) := by decide +kernel
theorem dX12_doHall_88 : decode cX12_doHall 88 = .ok (.aload_n 0, 1) := by decide +kernel
theorem dX12_doHall_89 : decode cX12_doHall 89 = .ok (.iconst 2, 1) := by decide +kernel
theorem dX12_doHall_90 : decode cX12_doHall 90 = .ok (.iconst 1, 1) := by decide +kernel
theorem dX12_doHall_91 : decode cX12_doHall 91 = .ok (.iconst 4, 1) := by decide +kernel
theorem dX12_doHall_92 : decode cX12_doHall 92 = .ok (.invokevirtual 94, 3) := by decide +kernel
theorem dX12_doHall_95 : decode cX12_doHall 95 = .ok (.ireturn, 1) := by decide +kernel
theorem dX12_doHall_96 : decode cX12_doHall 96 = .ok (.aload_n 0, 1) := by decide +kernel
theorem dX12_doHall_97 : decode cX12_doHall 97 = .ok (.getfield 9, 3) := by decide +kernel
theorem dX12_doHall_100 : decode cX12_doHall 100 = .ok (.bipush 127, 2) := by decide +kernel
theorem dX12_doHall_102 : decode cX12_doHall 102 = .ok (.iconst 3, 1) := by decide +kernel
theorem dX12_doHall_103 : decode cX12_doHall 103 = .ok (.iload 4, 2) := by decide +kernel
theorem dX12_doHall_105 : decode cX12_doHall 105 = .ok (.imul, 1) := by decide +kernel
theorem dX12_doHall_106 : decode cX12_doHall 106 = .ok (.iadd, 1) := by decide +kernel
theorem dX12_doHall_107 : decode cX12_doHall 107 = .ok (.iload_n 1, 1) := by decide +kernel
theorem dX12_doHall_108 : decode cX12_doHall 108 = .ok (.iastore, 1) := by decide +kernel
theorem dX12_doHall_109 : decode cX12_doHall 109 = .ok (.aload_n 0, 1) := by decide +kernel
theorem dX12_doHall_110 : decode cX12_doHall 110 = .ok (.getfield 9, 3) := by decide +kernel
theorem dX12_doHall_113 : decode cX12_doHall 113 = .ok (.bipush 127, 2) := by decide +kernel
theorem dX12_doHall_115 : decode cX12_doHall 115 = .ok (.iconst 3, 1) := by decide +kernel
theorem dX12_doHall_116 : decode cX12_doHall 116 = .ok (.iload 4, 2) := by decide +kernel
theorem dX12_doHall_118 : decode cX12_doHall 118 = .ok (.imul, 1) := by decide +kernel
theorem dX12_doHall_119 : decode cX12_doHall 119 = .ok (.iadd, 1) := by decide +kernel
theorem dX12_doHall_120 : decode cX12_doHall 120 = .ok (.iconst 1, 1) := by decide +kernel
theorem dX12_doHall_121 : decode cX12_doHall 121 = .ok (.iadd, 1) := by decide +kernel
theorem dX12_doHall_122 : decode cX12_doHall 122 = .ok (.iload_n 2, 1) := by decide +kernel
theorem dX12_doHall_123 : decode cX12_doHall 123 = .ok (.iastore, 1) := by decide +kernel
theorem dX12_doHall_124 : decode cX12_doHall 124 = .ok (.aload_n 0, 1) := by decide +kernel
theorem dX12_doHall_125 : decode cX12_doHall 125 = .ok (.getfield 9, 3) := by decide +kernel
theorem dX12_doHall_128 : decode cX12_doHall 128 = .ok (.bipush 127, 2) := by decide +kernel
theorem dX12_doHall_130 : decode cX12_doHall 130 = .ok (.iconst 3, 1) := by decide +kernel
theorem dX12_doHall_131 : decode cX12_doHall 131 = .ok (.iload 4, 2) := by decide +kernel
theorem dX12_doHall_133 : decode cX12_doHall 133 = .ok (.imul, 1) := by decide +kernel
theorem dX12_doHall_134 : decode cX12_doHall 134 = .ok (.iadd, 1) := by decide +kernel
theorem dX12_doHall_135 : decode cX12_doHall 135 = .ok (.iconst 2, 1) := by decide +kernel
theorem dX12_doHall_136 : decode cX12_doHall 136 = .ok (.iadd, 1) := by decide +kernel
theorem dX12_doHall_137 : decode cX12_doHall 137 = .ok (.iload_n 3, 1) := by decide +kernel
theorem dX12_doHall_138 : decode cX12_doHall 138 = .ok (.iastore, 1) := by decide +kernel
theorem dX12_doHall_139 : decode cX12_doHall 139 = .ok (.aload_n 0, 1) := by decide +kernel
theorem dX12_doHall_140 : decode cX12_doHall 140 = .ok (.getfield 9, 3) := by decide +kernel
theorem dX12_doHall_143 : decode cX12_doHall 143 = .ok (.iconst 3, 1) := by decide +kernel
theorem dX12_doHall_144 : decode cX12_doHall 144 = .ok (.dup2, 1) := by decide +kernel
theorem dX12_doHall_145 : decode cX12_doHall 145 = .ok (.iaload, 1) := by decide +kernel
theorem dX12_doHall_146 : decode cX12_doHall 146 = .ok (.iconst 1, 1) := by decide +kernel
theorem dX12_doHall_147 : decode cX12_doHall 147 = .ok (.iadd, 1) := by decide +kernel
theorem dX12_doHall_148 : decode cX12_doHall 148 = .ok (.iastore, 1) := by decide +kernel
theorem dX12_doHall_149 : decode cX12_doHall 149 = .ok (.iload 4, 2) := by decide +kernel
theorem dX12_doHall_151 : decode cX12_doHall 151 = .ok (.ireturn, 1) := by decide +kernel
theorem k_X12_doHall : cardV yX12_doHall (Cond.code yX12_doHall cX12_doHall 6 (some .int)) 3 := ⟨⟨qi_X12_doHall, qv_X12_doHall⟩, qc_X12_doHall, qn_X12, by decide +kernel, by decide +kernel, by decide +kernel⟩
set_option maxHeartbeats 4000000 in
set_option maxRecDepth 100000 in
theorem c_X12_doHall (l : Launch) (D : va_G) (g : Nat → ClassId) (q_this q_s q_before q_saved q_past q_steps q_goes q_line q_text q_orders : Nat) (p1 p2 p3 : Int32) (f_isSaved : Int32) (f_pastMany : Int32) (f_thrown : Int32) (f_reason : Int32) (f_detail : Int32) (f_isRefused : Int32) (f_goesMany : Int32) (f_roundSteps : Int32) (f_lineMany : Int32) (f_length : Int32) (f_at : Int32) (f_isWrong : Int32) (f_errorAt : Int32) (f_orderMany : Int32) (a_s : Nat → Int32) (o : Int32 × Int32 × Int32 × Int32 × Int32 × (Nat → Int32)) (h : F_X12_doHall p1 p2 p3 f_thrown f_reason f_detail f_isRefused a_s = some o) : MW l yX12_doHall (Cond.code yX12_doHall cX12_doHall 6 (some .int)) { frames := 2, cells := 0, slots := 0, locals := 46 } D g [.ref q_this, .int p1, .int p2, .int p3] [(q_this, .inr (12, [.ref q_s, .ref q_before, .ref q_saved, .int f_isSaved, .ref q_past, .int f_pastMany, .int f_thrown, .int f_reason, .int f_detail, .int f_isRefused, .ref q_steps, .ref q_goes, .int f_goesMany, .int f_roundSteps, .ref q_line, .int f_lineMany, .ref q_text, .int f_length, .int f_at, .int f_isWrong, .int f_errorAt, .ref q_orders, .int f_orderMany])), (q_s, .inl (g 0, 147, .inl a_s))] (some (.int o.1)) [(q_this, .inr (12, [.ref q_s, .ref q_before, .ref q_saved, .int f_isSaved, .ref q_past, .int f_pastMany, .int o.2.1, .int o.2.2.1, .int o.2.2.2.1, .int o.2.2.2.2.1, .ref q_steps, .ref q_goes, .int f_goesMany, .int f_roundSteps, .ref q_line, .int f_lineMany, .ref q_text, .int f_length, .int f_at, .int f_isWrong, .int f_errorAt, .ref q_orders, .int f_orderMany])), (q_s, .inl (g 0, 147, .inl o.2.2.2.2.2))] := by
  refine z_wr_start (by decide) (Nat.le_of_ble_eq_true rfl) ?_
  intro p e s m args below meth c Q A X hr hQ hA
  refine z_lv (lv' := [(0, .ref q_this), (1, .int p1), (2, .int p2), (3, .int p3)]) rfl ?_
  have H33 : ∀ (f_thrown : Int32) (f_reason : Int32) (f_detail : Int32) (f_isRefused : Int32) (a_s : Nat → Int32), J_X12_doHall_33 p1 p2 p3 f_thrown f_reason f_detail f_isRefused a_s = some o → Z p l e { frames := 2, cells := 0, slots := 0, locals := 46 } s m args below meth c Q 6 0 0 (IW D A s [(q_this, .inr (12, [.ref q_s, .ref q_before, .ref q_saved, .int f_isSaved, .ref q_past, .int f_pastMany, .int f_thrown, .int f_reason, .int f_detail, .int f_isRefused, .ref q_steps, .ref q_goes, .int f_goesMany, .int f_roundSteps, .ref q_line, .int f_lineMany, .ref q_text, .int f_length, .int f_at, .int f_isWrong, .int f_errorAt, .ref q_orders, .int f_orderMany])), (q_s, .inl (g 0, 147, .inl a_s))]) 33 [(0, .ref q_this)] [] := by
    intro f_thrown f_reason f_detail f_isRefused a_s h
    refine z_aload_n X 0 dX12_doHall_33 rfl rfl ?_
    refine z_iconst X (1 : Int32) dX12_doHall_34 (by decide) ?_
    obtain ⟨o3, e4, h⟩ := bnd_p h
    refine z_wrV (rest := []) (q0 := 0) (ci := 12) (ws' := [(q_this, .inr (12, [.ref q_s, .ref q_before, .ref q_saved, .int f_isSaved, .ref q_past, .int f_pastMany, .int o3.2, .int f_reason, .int f_detail, .int f_isRefused, .ref q_steps, .ref q_goes, .int f_goesMany, .int f_roundSteps, .ref q_line, .int f_lineMany, .ref q_text, .int f_length, .int f_at, .int f_isWrong, .int f_errorAt, .ref q_orders, .int f_orderMany])), (q_s, .inl (g 0, 147, .inl a_s))]) (wr := [(q_s, .inl (g 0, 147, .inl a_s))]) (as := [q_this, q_s]) X k_X12_fails (c_X12_fails l D g q_this q_s q_before q_saved q_past q_steps q_goes q_line q_text q_orders (1 : Int32) f_isSaved f_pastMany f_thrown f_reason f_detail f_isRefused f_goesMany f_roundSteps f_lineMany f_length f_at f_isWrong f_errorAt f_orderMany o3 e4) ql_X12_X12_fails dX12_doHall_35 [0] [1] ⟨rfl, rfl, rfl, rfl, rfl, rfl, rfl, rfl⟩ rfl rfl rfl rfl rfl ⟨Nat.le_of_ble_eq_true rfl, Nat.le_of_ble_eq_true rfl, rfl, rfl, Nat.le_of_ble_eq_true rfl, Nat.le_of_ble_eq_true rfl⟩ (Nat.le_of_ble_eq_true rfl) ?_
    cases h
    exact z_iretW X hQ hA hr dX12_doHall_38
  have H42 : ∀ (n : Nat) (x4 : Int32) (x5 : Int32) (f_thrown : Int32) (f_reason : Int32) (f_detail : Int32) (f_isRefused : Int32) (a_s : Nat → Int32), L_X12_doHall_42 p1 p2 p3  n x4 x5 f_thrown f_reason f_detail f_isRefused a_s = some o → Z p l e { frames := 2, cells := 0, slots := 0, locals := 46 } s m args below meth c Q 6 0 0 (IW D A s [(q_this, .inr (12, [.ref q_s, .ref q_before, .ref q_saved, .int f_isSaved, .ref q_past, .int f_pastMany, .int f_thrown, .int f_reason, .int f_detail, .int f_isRefused, .ref q_steps, .ref q_goes, .int f_goesMany, .int f_roundSteps, .ref q_line, .int f_lineMany, .ref q_text, .int f_length, .int f_at, .int f_isWrong, .int f_errorAt, .ref q_orders, .int f_orderMany])), (q_s, .inl (g 0, 147, .inl a_s))]) 42 [(0, .ref q_this), (1, .int p1), (2, .int p2), (3, .int p3), (4, .int x4), (5, .int x5)] [] := by
    intro n
    induction n with
    | zero => intro x4 x5 f_thrown f_reason f_detail f_isRefused a_s h; cases h
    | succ n42 ih42 =>
      intro x4 x5 f_thrown f_reason f_detail f_isRefused a_s h
      refine z_iload X 5 dX12_doHall_42 rfl ?_
      refine z_iload_n X 3 dX12_doHall_44 rfl rfl ?_
      refine z_icmp_gt X 82 dX12_doHall_45 (by decide) h (fun _ h => ?_) (fun _ h => ?_)
      · refine z_iload X 4 dX12_doHall_82 rfl ?_
        refine z_iconst X (4 : Int32) dX12_doHall_84 (by decide) ?_
        refine z_icmp_ne X 96 dX12_doHall_85 (by decide) h (fun _ h => ?_) (fun _ h => ?_)
        · refine z_aload_n X 0 dX12_doHall_88 rfl rfl ?_
          refine z_iconst X (2 : Int32) dX12_doHall_89 (by decide) ?_
          refine z_iconst X (1 : Int32) dX12_doHall_90 (by decide) ?_
          refine z_iconst X (4 : Int32) dX12_doHall_91 (by decide) ?_
          obtain ⟨o7, e8, h⟩ := bnd_p h
          refine z_wrV (rest := []) (q0 := 0) (ci := 12) (ws' := [(q_this, .inr (12, [.ref q_s, .ref q_before, .ref q_saved, .int f_isSaved, .ref q_past, .int f_pastMany, .int o7.2.1, .int o7.2.2.1, .int o7.2.2.2.1, .int o7.2.2.2.2, .ref q_steps, .ref q_goes, .int f_goesMany, .int f_roundSteps, .ref q_line, .int f_lineMany, .ref q_text, .int f_length, .int f_at, .int f_isWrong, .int f_errorAt, .ref q_orders, .int f_orderMany])), (q_s, .inl (g 0, 147, .inl a_s))]) (wr := [(q_s, .inl (g 0, 147, .inl a_s))]) (as := [q_this, q_s]) X k_X12_refuse (c_X12_refuse l D g q_this q_s q_before q_saved q_past q_steps q_goes q_line q_text q_orders (2 : Int32) (1 : Int32) (4 : Int32) f_isSaved f_pastMany f_thrown f_reason f_detail f_isRefused f_goesMany f_roundSteps f_lineMany f_length f_at f_isWrong f_errorAt f_orderMany o7 e8) ql_X12_X12_refuse dX12_doHall_92 [0] [1] ⟨rfl, rfl, rfl, rfl, rfl, rfl, rfl, rfl⟩ rfl rfl rfl rfl rfl ⟨Nat.le_of_ble_eq_true rfl, Nat.le_of_ble_eq_true rfl, rfl, rfl, Nat.le_of_ble_eq_true rfl, Nat.le_of_ble_eq_true rfl⟩ (Nat.le_of_ble_eq_true rfl) ?_
          cases h
          exact z_iretW X hQ hA hr dX12_doHall_95
        · refine z_aload_n X 0 dX12_doHall_96 rfl rfl ?_
          refine z_get (q0 := 0) (k := 0) (ci := 12) X IW_P iw_X12 rfl qf_X12_X12_s (by decide) dX12_doHall_97 rfl rfl ?_
          refine z_bipush X (127 : Int32) dX12_doHall_100 (by decide) ?_
          refine z_iconst X (3 : Int32) dX12_doHall_102 (by decide) ?_
          refine z_iload X 4 dX12_doHall_103 rfl ?_
          refine z_imul X dX12_doHall_105 ?_
          refine z_iadd X dX12_doHall_106 ?_
          refine z_iload_n X 1 dX12_doHall_107 rfl rfl ?_
          refine z_iast (q0 := 1) (ws' := [(q_this, .inr (12, [.ref q_s, .ref q_before, .ref q_saved, .int f_isSaved, .ref q_past, .int f_pastMany, .int f_thrown, .int f_reason, .int f_detail, .int f_isRefused, .ref q_steps, .ref q_goes, .int f_goesMany, .int f_roundSteps, .ref q_line, .int f_lineMany, .ref q_text, .int f_length, .int f_at, .int f_isWrong, .int f_errorAt, .ref q_orders, .int f_orderMany])), (q_s, .inl (g 0, 147, .inl (upd a_s ((127 : Int32) + ((3 : Int32) * x4)).toNatClampNeg p1)))]) X dX12_doHall_108 rfl h rfl (fun h => ?_)
          refine z_aload_n X 0 dX12_doHall_109 rfl rfl ?_
          refine z_get (q0 := 0) (k := 0) (ci := 12) X IW_P iw_X12 rfl qf_X12_X12_s (by decide) dX12_doHall_110 rfl rfl ?_
          refine z_bipush X (127 : Int32) dX12_doHall_113 (by decide) ?_
          refine z_iconst X (3 : Int32) dX12_doHall_115 (by decide) ?_
          refine z_iload X 4 dX12_doHall_116 rfl ?_
          refine z_imul X dX12_doHall_118 ?_
          refine z_iadd X dX12_doHall_119 ?_
          refine z_iconst X (1 : Int32) dX12_doHall_120 (by decide) ?_
          refine z_iadd X dX12_doHall_121 ?_
          refine z_iload_n X 2 dX12_doHall_122 rfl rfl ?_
          refine z_iast (q0 := 1) (ws' := [(q_this, .inr (12, [.ref q_s, .ref q_before, .ref q_saved, .int f_isSaved, .ref q_past, .int f_pastMany, .int f_thrown, .int f_reason, .int f_detail, .int f_isRefused, .ref q_steps, .ref q_goes, .int f_goesMany, .int f_roundSteps, .ref q_line, .int f_lineMany, .ref q_text, .int f_length, .int f_at, .int f_isWrong, .int f_errorAt, .ref q_orders, .int f_orderMany])), (q_s, .inl (g 0, 147, .inl (upd (upd a_s ((127 : Int32) + ((3 : Int32) * x4)).toNatClampNeg p1) (((127 : Int32) + ((3 : Int32) * x4)) + (1 : Int32)).toNatClampNeg p2)))]) X dX12_doHall_123 rfl h rfl (fun h => ?_)
          refine z_aload_n X 0 dX12_doHall_124 rfl rfl ?_
          refine z_get (q0 := 0) (k := 0) (ci := 12) X IW_P iw_X12 rfl qf_X12_X12_s (by decide) dX12_doHall_125 rfl rfl ?_
          refine z_bipush X (127 : Int32) dX12_doHall_128 (by decide) ?_
          refine z_iconst X (3 : Int32) dX12_doHall_130 (by decide) ?_
          refine z_iload X 4 dX12_doHall_131 rfl ?_
          refine z_imul X dX12_doHall_133 ?_
          refine z_iadd X dX12_doHall_134 ?_
          refine z_iconst X (2 : Int32) dX12_doHall_135 (by decide) ?_
          refine z_iadd X dX12_doHall_136 ?_
          refine z_iload_n X 3 dX12_doHall_137 rfl rfl ?_
          refine z_iast (q0 := 1) (ws' := [(q_this, .inr (12, [.ref q_s, .ref q_before, .ref q_saved, .int f_isSaved, .ref q_past, .int f_pastMany, .int f_thrown, .int f_reason, .int f_detail, .int f_isRefused, .ref q_steps, .ref q_goes, .int f_goesMany, .int f_roundSteps, .ref q_line, .int f_lineMany, .ref q_text, .int f_length, .int f_at, .int f_isWrong, .int f_errorAt, .ref q_orders, .int f_orderMany])), (q_s, .inl (g 0, 147, .inl (upd (upd (upd a_s ((127 : Int32) + ((3 : Int32) * x4)).toNatClampNeg p1) (((127 : Int32) + ((3 : Int32) * x4)) + (1 : Int32)).toNatClampNeg p2) (((127 : Int32) + ((3 : Int32) * x4)) + (2 : Int32)).toNatClampNeg p3)))]) X dX12_doHall_138 rfl h rfl (fun h => ?_)
          refine z_aload_n X 0 dX12_doHall_139 rfl rfl ?_
          refine z_get (q0 := 0) (k := 0) (ci := 12) X IW_P iw_X12 rfl qf_X12_X12_s (by decide) dX12_doHall_140 rfl rfl ?_
          refine z_iconst X (3 : Int32) dX12_doHall_143 (by decide) ?_
          refine z_dup2 X dX12_doHall_144 rfl rfl ?_
          refine z_iald (q0 := 1) X IW_P dX12_doHall_145 rfl h (fun h => ?_)
          refine z_iconst X (1 : Int32) dX12_doHall_146 (by decide) ?_
          refine z_iadd X dX12_doHall_147 ?_
          refine z_iast (q0 := 1) (ws' := [(q_this, .inr (12, [.ref q_s, .ref q_before, .ref q_saved, .int f_isSaved, .ref q_past, .int f_pastMany, .int f_thrown, .int f_reason, .int f_detail, .int f_isRefused, .ref q_steps, .ref q_goes, .int f_goesMany, .int f_roundSteps, .ref q_line, .int f_lineMany, .ref q_text, .int f_length, .int f_at, .int f_isWrong, .int f_errorAt, .ref q_orders, .int f_orderMany])), (q_s, .inl (g 0, 147, .inl (upd (upd (upd (upd a_s ((127 : Int32) + ((3 : Int32) * x4)).toNatClampNeg p1) (((127 : Int32) + ((3 : Int32) * x4)) + (1 : Int32)).toNatClampNeg p2) (((127 : Int32) + ((3 : Int32) * x4)) + (2 : Int32)).toNatClampNeg p3) (3 : Int32).toNatClampNeg (((upd (upd (upd a_s ((127 : Int32) + ((3 : Int32) * x4)).toNatClampNeg p1) (((127 : Int32) + ((3 : Int32) * x4)) + (1 : Int32)).toNatClampNeg p2) (((127 : Int32) + ((3 : Int32) * x4)) + (2 : Int32)).toNatClampNeg p3) (3 : Int32).toNatClampNeg) + (1 : Int32)))))]) X dX12_doHall_148 rfl h rfl (fun h => ?_)
          refine z_iload X 4 dX12_doHall_149 rfl ?_
          cases h
          exact z_iretW X hQ hA hr dX12_doHall_151
      · refine z_aload_n X 0 dX12_doHall_48 rfl rfl ?_
        refine z_bipush X (8 : Int32) dX12_doHall_49 (by decide) ?_
        refine z_iload_n X 1 dX12_doHall_51 rfl rfl ?_
        refine z_imul X dX12_doHall_52 ?_
        refine z_iload X 5 dX12_doHall_53 rfl ?_
        refine z_iadd X dX12_doHall_55 ?_
        obtain ⟨o9, e10, h⟩ := bnd_p h
        refine z_rdV (rest := []) (q0 := 0) (ci := 12) X IW_P k_X12_hallOn (c_X12_hallOn l D g q_this q_s q_before q_saved q_past q_steps q_goes q_line q_text q_orders (((8 : Int32) * p1) + x5) f_isSaved f_pastMany f_thrown f_reason f_detail f_isRefused f_goesMany f_roundSteps f_lineMany f_length f_at f_isWrong f_errorAt f_orderMany a_s o9 e10) ql_X12_X12_hallOn dX12_doHall_56 [0, 1] rfl rfl rfl rfl rfl rfl ⟨Nat.le_of_ble_eq_true rfl, Nat.le_of_ble_eq_true rfl, rfl, rfl, Nat.le_of_ble_eq_true rfl, Nat.le_of_ble_eq_true rfl⟩ (Nat.le_of_ble_eq_true rfl) ?_
        refine z_if_lt X 76 dX12_doHall_59 (by decide) h (fun _ h => ?_) (fun _ h => ?_)
        · refine z_iinc X 5 [(5, .int (x5 + 1)), (0, .ref q_this), (1, .int p1), (2, .int p2), (3, .int p3), (4, .int x4)] dX12_doHall_76 rfl rfl (by decide) rfl ?_
          refine z_goto X 42 dX12_doHall_79 (by decide) ?_
          refine z_sub (lv' := [(0, .ref q_this), (1, .int p1), (2, .int p2), (3, .int p3), (4, .int x4), (5, .int (x5 + 1))]) [1, 2, 3, 4, 5, 0] rfl ?_
          exact ih42 x4 (x5 + 1) f_thrown f_reason f_detail f_isRefused a_s h
        · refine z_aload_n X 0 dX12_doHall_62 rfl rfl ?_
          refine z_iconst X (2 : Int32) dX12_doHall_63 (by decide) ?_
          refine z_iconst X (4 : Int32) dX12_doHall_64 (by decide) ?_
          refine z_bipush X (8 : Int32) dX12_doHall_65 (by decide) ?_
          refine z_iload_n X 1 dX12_doHall_67 rfl rfl ?_
          refine z_imul X dX12_doHall_68 ?_
          refine z_iload X 5 dX12_doHall_69 rfl ?_
          refine z_iadd X dX12_doHall_71 ?_
          obtain ⟨o11, e12, h⟩ := bnd_p h
          refine z_wrV (rest := []) (q0 := 0) (ci := 12) (ws' := [(q_this, .inr (12, [.ref q_s, .ref q_before, .ref q_saved, .int f_isSaved, .ref q_past, .int f_pastMany, .int o11.2.1, .int o11.2.2.1, .int o11.2.2.2.1, .int o11.2.2.2.2, .ref q_steps, .ref q_goes, .int f_goesMany, .int f_roundSteps, .ref q_line, .int f_lineMany, .ref q_text, .int f_length, .int f_at, .int f_isWrong, .int f_errorAt, .ref q_orders, .int f_orderMany])), (q_s, .inl (g 0, 147, .inl a_s))]) (wr := [(q_s, .inl (g 0, 147, .inl a_s))]) (as := [q_this, q_s]) X k_X12_refuse (c_X12_refuse l D g q_this q_s q_before q_saved q_past q_steps q_goes q_line q_text q_orders (2 : Int32) (4 : Int32) (((8 : Int32) * p1) + x5) f_isSaved f_pastMany f_thrown f_reason f_detail f_isRefused f_goesMany f_roundSteps f_lineMany f_length f_at f_isWrong f_errorAt f_orderMany o11 e12) ql_X12_X12_refuse dX12_doHall_72 [0] [1] ⟨rfl, rfl, rfl, rfl, rfl, rfl, rfl, rfl⟩ rfl rfl rfl rfl rfl ⟨Nat.le_of_ble_eq_true rfl, Nat.le_of_ble_eq_true rfl, rfl, rfl, Nat.le_of_ble_eq_true rfl, Nat.le_of_ble_eq_true rfl⟩ (Nat.le_of_ble_eq_true rfl) ?_
          cases h
          exact z_iretW X hQ hA hr dX12_doHall_75
  refine z_aload_n X 0 dX12_doHall_0 rfl rfl ?_
  refine z_get (q0 := 0) (k := 0) (ci := 12) X IW_P iw_X12 rfl qf_X12_X12_s (by decide) dX12_doHall_1 rfl rfl ?_
  refine z_iconst X (3 : Int32) dX12_doHall_4 (by decide) ?_
  refine z_iald (q0 := 1) X IW_P dX12_doHall_5 rfl h (fun h => ?_)
  refine z_istore X [(4, .int (a_s (3 : Int32).toNatClampNeg)), (0, .ref q_this), (1, .int p1), (2, .int p2), (3, .int p3)] dX12_doHall_6 (by decide) rfl ?_
  refine z_iload_n X 2 dX12_doHall_8 rfl rfl ?_
  refine z_iconst X (0 : Int32) dX12_doHall_9 (by decide) ?_
  refine z_bipush X (7 : Int32) dX12_doHall_10 (by decide) ?_
  obtain ⟨o1, e2, h⟩ := bnd_p h
  refine z_rdS (rest := []) X IW_P k_X12_in (c_X12_in l D g p1 (0 : Int32) (7 : Int32) o1 e2) ql_X12_X12_in dX12_doHall_12 [] rfl rfl rfl ⟨Nat.le_of_ble_eq_true rfl, Nat.le_of_ble_eq_true rfl, rfl, rfl, Nat.le_of_ble_eq_true rfl, Nat.le_of_ble_eq_true rfl⟩ (Nat.le_of_ble_eq_true rfl) ?_
  refine z_if_eq X 33 dX12_doHall_15 (by decide) h (fun _ h => ?_) (fun _ h => ?_)
  · refine z_sub (lv' := [(0, .ref q_this)]) [1] rfl ?_
    exact H33 f_thrown f_reason f_detail f_isRefused a_s h
  · refine z_iload_n X 3 dX12_doHall_18 rfl rfl ?_
    refine z_iconst X (0 : Int32) dX12_doHall_19 (by decide) ?_
    refine z_iload_n X 4 dX12_doHall_20 rfl rfl ?_
    obtain ⟨o5, e6, h⟩ := bnd_p h
    refine z_rdS (rest := []) X IW_P k_X12_in (c_X12_in l D g p2 (0 : Int32) p3 o5 e6) ql_X12_X12_in dX12_doHall_21 [] rfl rfl rfl ⟨Nat.le_of_ble_eq_true rfl, Nat.le_of_ble_eq_true rfl, rfl, rfl, Nat.le_of_ble_eq_true rfl, Nat.le_of_ble_eq_true rfl⟩ (Nat.le_of_ble_eq_true rfl) ?_
    refine z_if_eq X 33 dX12_doHall_24 (by decide) h (fun _ h => ?_) (fun _ h => ?_)
    · refine z_sub (lv' := [(0, .ref q_this)]) [1] rfl ?_
      exact H33 f_thrown f_reason f_detail f_isRefused a_s h
    · refine z_iload_n X 4 dX12_doHall_27 rfl rfl ?_
      refine z_bipush X (8 : Int32) dX12_doHall_28 (by decide) ?_
      refine z_icmp_lt X 39 dX12_doHall_30 (by decide) h (fun _ h => ?_) (fun _ h => ?_)
      · refine z_iload_n X 3 dX12_doHall_39 rfl rfl ?_
        refine z_istore X [(5, .int p2), (4, .int (a_s (3 : Int32).toNatClampNeg)), (0, .ref q_this), (1, .int p1), (2, .int p2), (3, .int p3)] dX12_doHall_40 (by decide) rfl ?_
        refine z_sub (lv' := [(0, .ref q_this), (1, .int p1), (2, .int p2), (3, .int p3), (4, .int (a_s (3 : Int32).toNatClampNeg)), (5, .int p2)]) [2, 3, 4, 5, 1, 0] rfl ?_
        exact H42 100 (a_s (3 : Int32).toNatClampNeg) p2 f_thrown f_reason f_detail f_isRefused a_s h
      · refine z_sub (lv' := [(0, .ref q_this)]) [1] rfl ?_
        exact H33 f_thrown f_reason f_detail f_isRefused a_s h

def F_X12_hall (p1 : Int32) (p2 : Int32) (p3 : Int32) (f_pastMany : Int32) (f_thrown : Int32) (f_reason : Int32) (f_detail : Int32) (f_isRefused : Int32) (a_s : Nat → Int32) (a_before : Nat → Int32) (a_past : Nat → Int32) : Option (Int32 × Int32 × Int32 × Int32 × Int32 × Int32 × (Nat → Int32) × (Nat → Int32) × (Nat → Int32)) :=
  bnd (F_X12_keep a_s f_thrown a_before) (fun o1 => bnd (F_X12_doHall p1 p2 p3 o1.1 f_reason f_detail f_isRefused a_s) (fun o3 => bnd (F_X12_ends o3.1 o3.2.1 o1.2 f_pastMany o3.2.2.2.2.2 a_past) (fun o5 => some (o5.1, o5.2.1, o3.2.1, o3.2.2.1, o3.2.2.2.1, o3.2.2.2.2.1, o5.2.2.1, o1.2, o5.2.2.2))))
theorem dX12_hall_0 : decode cX12_hall 0 = .ok (.aload_n 0, 1) := by decide +kernel
theorem dX12_hall_1 : decode cX12_hall 1 = .ok (.invokevirtual 101, 3) := by decide +kernel
theorem dX12_hall_4 : decode cX12_hall 4 = .ok (.aload_n 0, 1) := by decide +kernel
theorem dX12_hall_5 : decode cX12_hall 5 = .ok (.aload_n 0, 1) := by decide +kernel
theorem dX12_hall_6 : decode cX12_hall 6 = .ok (.iload_n 1, 1) := by decide +kernel
theorem dX12_hall_7 : decode cX12_hall 7 = .ok (.iload_n 2, 1) := by decide +kernel
theorem dX12_hall_8 : decode cX12_hall 8 = .ok (.iload_n 3, 1) := by decide +kernel
theorem dX12_hall_9 : decode cX12_hall 9 = .ok (.invokevirtual 122, 3) := by decide +kernel
theorem dX12_hall_12 : decode cX12_hall 12 = .ok (.invokevirtual 107, 3) := by decide +kernel
theorem dX12_hall_15 : decode cX12_hall 15 = .ok (.ireturn, 1) := by decide +kernel
theorem k_X12_hall : cardV yX12_hall (Cond.code yX12_hall cX12_hall 4 (some .int)) 3 := ⟨⟨qi_X12_hall, qv_X12_hall⟩, qc_X12_hall, qn_X12, by decide +kernel, by decide +kernel, by decide +kernel⟩
set_option maxHeartbeats 4000000 in
set_option maxRecDepth 100000 in
theorem c_X12_hall (l : Launch) (D : va_G) (g : Nat → ClassId) (q_this q_s q_before q_saved q_past q_steps q_goes q_line q_text q_orders : Nat) (p1 p2 p3 : Int32) (f_isSaved : Int32) (f_pastMany : Int32) (f_thrown : Int32) (f_reason : Int32) (f_detail : Int32) (f_isRefused : Int32) (f_goesMany : Int32) (f_roundSteps : Int32) (f_lineMany : Int32) (f_length : Int32) (f_at : Int32) (f_isWrong : Int32) (f_errorAt : Int32) (f_orderMany : Int32) (a_s : Nat → Int32) (a_before : Nat → Int32) (a_past : Nat → Int32) (o : Int32 × Int32 × Int32 × Int32 × Int32 × Int32 × (Nat → Int32) × (Nat → Int32) × (Nat → Int32)) (h : F_X12_hall p1 p2 p3 f_pastMany f_thrown f_reason f_detail f_isRefused a_s a_before a_past = some o) : MW l yX12_hall (Cond.code yX12_hall cX12_hall 4 (some .int)) { frames := 3, cells := 0, slots := 0, locals := 71 } D g [.ref q_this, .int p1, .int p2, .int p3] [(q_this, .inr (12, [.ref q_s, .ref q_before, .ref q_saved, .int f_isSaved, .ref q_past, .int f_pastMany, .int f_thrown, .int f_reason, .int f_detail, .int f_isRefused, .ref q_steps, .ref q_goes, .int f_goesMany, .int f_roundSteps, .ref q_line, .int f_lineMany, .ref q_text, .int f_length, .int f_at, .int f_isWrong, .int f_errorAt, .ref q_orders, .int f_orderMany])), (q_s, .inl (g 0, 147, .inl a_s)), (q_before, .inl (g 0, 147, .inl a_before)), (q_past, .inl (g 0, 1176, .inl a_past))] (some (.int o.1)) [(q_this, .inr (12, [.ref q_s, .ref q_before, .ref q_saved, .int f_isSaved, .ref q_past, .int o.2.1, .int o.2.2.1, .int o.2.2.2.1, .int o.2.2.2.2.1, .int o.2.2.2.2.2.1, .ref q_steps, .ref q_goes, .int f_goesMany, .int f_roundSteps, .ref q_line, .int f_lineMany, .ref q_text, .int f_length, .int f_at, .int f_isWrong, .int f_errorAt, .ref q_orders, .int f_orderMany])), (q_s, .inl (g 0, 147, .inl o.2.2.2.2.2.2.1)), (q_before, .inl (g 0, 147, .inl o.2.2.2.2.2.2.2.1)), (q_past, .inl (g 0, 1176, .inl o.2.2.2.2.2.2.2.2))] := by
  refine z_wr_start (by decide) (Nat.le_of_ble_eq_true rfl) ?_
  intro p e s m args below meth c Q A X hr hQ hA
  refine z_lv (lv' := [(0, .ref q_this), (1, .int p1), (2, .int p2), (3, .int p3)]) rfl ?_
  refine z_aload_n X 0 dX12_hall_0 rfl rfl ?_
  obtain ⟨o1, e2, h⟩ := bnd_p h
  refine z_wrV (rest := []) (q0 := 0) (ci := 12) (ws' := [(q_this, .inr (12, [.ref q_s, .ref q_before, .ref q_saved, .int f_isSaved, .ref q_past, .int f_pastMany, .int o1.1, .int f_reason, .int f_detail, .int f_isRefused, .ref q_steps, .ref q_goes, .int f_goesMany, .int f_roundSteps, .ref q_line, .int f_lineMany, .ref q_text, .int f_length, .int f_at, .int f_isWrong, .int f_errorAt, .ref q_orders, .int f_orderMany])), (q_s, .inl (g 0, 147, .inl a_s)), (q_before, .inl (g 0, 147, .inl o1.2)), (q_past, .inl (g 0, 1176, .inl a_past))]) (wr := [(q_past, .inl (g 0, 1176, .inl a_past))]) (as := [q_this, q_s, q_before, q_past]) X k_X12_keep (c_X12_keep l D g q_this q_s q_before q_saved q_past q_steps q_goes q_line q_text q_orders f_isSaved f_pastMany f_thrown f_reason f_detail f_isRefused f_goesMany f_roundSteps f_lineMany f_length f_at f_isWrong f_errorAt f_orderMany a_s a_before o1 e2) ql_X12_X12_keep dX12_hall_1 [0, 1, 2] [3] ⟨rfl, rfl, rfl, rfl, rfl, rfl, rfl, rfl⟩ rfl rfl rfl rfl rfl ⟨Nat.le_of_ble_eq_true rfl, Nat.le_of_ble_eq_true rfl, rfl, rfl, Nat.le_of_ble_eq_true rfl, Nat.le_of_ble_eq_true rfl⟩ (Nat.le_of_ble_eq_true rfl) ?_
  refine z_aload_n X 0 dX12_hall_4 rfl rfl ?_
  refine z_aload_n X 0 dX12_hall_5 rfl rfl ?_
  refine z_iload_n X 1 dX12_hall_6 rfl rfl ?_
  refine z_iload_n X 2 dX12_hall_7 rfl rfl ?_
  refine z_iload_n X 3 dX12_hall_8 rfl rfl ?_
  obtain ⟨o3, e4, h⟩ := bnd_p h
  refine z_wrV (rest := [.ref q_this]) (q0 := 0) (ci := 12) (ws' := [(q_this, .inr (12, [.ref q_s, .ref q_before, .ref q_saved, .int f_isSaved, .ref q_past, .int f_pastMany, .int o3.2.1, .int o3.2.2.1, .int o3.2.2.2.1, .int o3.2.2.2.2.1, .ref q_steps, .ref q_goes, .int f_goesMany, .int f_roundSteps, .ref q_line, .int f_lineMany, .ref q_text, .int f_length, .int f_at, .int f_isWrong, .int f_errorAt, .ref q_orders, .int f_orderMany])), (q_s, .inl (g 0, 147, .inl o3.2.2.2.2.2)), (q_before, .inl (g 0, 147, .inl o1.2)), (q_past, .inl (g 0, 1176, .inl a_past))]) (wr := [(q_before, .inl (g 0, 147, .inl o1.2)), (q_past, .inl (g 0, 1176, .inl a_past))]) (as := [q_this, q_s, q_before, q_past]) X k_X12_doHall (c_X12_doHall l D g q_this q_s q_before q_saved q_past q_steps q_goes q_line q_text q_orders p1 p2 p3 f_isSaved f_pastMany o1.1 f_reason f_detail f_isRefused f_goesMany f_roundSteps f_lineMany f_length f_at f_isWrong f_errorAt f_orderMany a_s o3 e4) ql_X12_X12_doHall dX12_hall_9 [0, 1] [2, 3] ⟨rfl, rfl, rfl, rfl, rfl, rfl, rfl, rfl⟩ rfl rfl rfl rfl rfl ⟨Nat.le_of_ble_eq_true rfl, Nat.le_of_ble_eq_true rfl, rfl, rfl, Nat.le_of_ble_eq_true rfl, Nat.le_of_ble_eq_true rfl⟩ (Nat.le_of_ble_eq_true rfl) ?_
  obtain ⟨o5, e6, h⟩ := bnd_p h
  refine z_wrV (rest := []) (q0 := 0) (ci := 12) (ws' := [(q_this, .inr (12, [.ref q_s, .ref q_before, .ref q_saved, .int f_isSaved, .ref q_past, .int o5.2.1, .int o3.2.1, .int o3.2.2.1, .int o3.2.2.2.1, .int o3.2.2.2.2.1, .ref q_steps, .ref q_goes, .int f_goesMany, .int f_roundSteps, .ref q_line, .int f_lineMany, .ref q_text, .int f_length, .int f_at, .int f_isWrong, .int f_errorAt, .ref q_orders, .int f_orderMany])), (q_s, .inl (g 0, 147, .inl o5.2.2.1)), (q_before, .inl (g 0, 147, .inl o1.2)), (q_past, .inl (g 0, 1176, .inl o5.2.2.2))]) (wr := []) (as := [q_this, q_s, q_before, q_past]) X k_X12_ends (c_X12_ends l D g q_this q_s q_before q_saved q_past q_steps q_goes q_line q_text q_orders o3.1 f_isSaved f_pastMany o3.2.1 o3.2.2.1 o3.2.2.2.1 o3.2.2.2.2.1 f_goesMany f_roundSteps f_lineMany f_length f_at f_isWrong f_errorAt f_orderMany o3.2.2.2.2.2 o1.2 a_past o5 e6) ql_X12_X12_ends dX12_hall_12 [0, 1, 2, 3] [] ⟨rfl, rfl, rfl, rfl, rfl, rfl, rfl, rfl⟩ rfl rfl rfl rfl rfl ⟨Nat.le_of_ble_eq_true rfl, Nat.le_of_ble_eq_true rfl, rfl, rfl, Nat.le_of_ble_eq_true rfl, Nat.le_of_ble_eq_true rfl⟩ (Nat.le_of_ble_eq_true rfl) ?_
  cases h
  exact z_iretW X hQ hA hr dX12_hall_15
