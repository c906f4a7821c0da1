def F_X12_doDropHall (p1 : Int32) (f_thrown : Int32) (a_s : Nat → Int32) : Option (Int32 × Int32 × (Nat → Int32)) :=
  grd (inb (3 : Int32) 147) (bnd (F_X12_in p1 (0 : Int32) ((a_s (3 : Int32).toNatClampNeg) - (1 : Int32))) (fun o1 => brn (o1 = 0) (bnd (F_X12_fails (1 : Int32) f_thrown) (fun o3 => some (o3.1, o3.2, a_s))) (grd (cpyok ((127 : Int32) + ((3 : Int32) * (p1 + (1 : Int32)))) ((127 : Int32) + ((3 : Int32) * p1)) ((3 : Int32) * (((a_s (3 : Int32).toNatClampNeg) - (1 : Int32)) - p1)) 147 147) (grd (inb (3 : Int32) 147) (some ((a_s (3 : Int32).toNatClampNeg) - (1 : Int32), f_thrown, (upd (va_cpy a_s a_s ((127 : Int32) + ((3 : Int32) * (p1 + (1 : Int32)))).toNatClampNeg ((127 : Int32) + ((3 : Int32) * p1)).toNatClampNeg ((3 : Int32) * (((a_s (3 : Int32).toNatClampNeg) - (1 : Int32)) - p1)).toNatClampNeg) (3 : Int32).toNatClampNeg ((a_s (3 : Int32).toNatClampNeg) - (1 : Int32)))))))))
theorem dX12_doDropHall_0 : decode cX12_doDropHall 0 = .ok (.aload_n 0, 1) := by decide +kernel
theorem dX12_doDropHall_1 : decode cX12_doDropHall 1 = .ok (.getfield 9, 3) := by decide +kernel
theorem dX12_doDropHall_4 : decode cX12_doDropHall 4 = .ok (.iconst 3, 1) := by decide +kernel
theorem dX12_doDropHall_5 : decode cX12_doDropHall 5 = .ok (.iaload, 1) := by decide +kernel
theorem dX12_doDropHall_6 : decode cX12_doDropHall 6 = .ok (.iconst 1, 1) := by decide +kernel
theorem dX12_doDropHall_7 : decode cX12_doDropHall 7 = .ok (.isub, 1) := by decide +kernel
theorem dX12_doDropHall_8 : decode cX12_doDropHall 8 = .ok (.istore_n 2, 1) := by decide +kernel
theorem dX12_doDropHall_9 : decode cX12_doDropHall 9 = .ok (.iload_n 1, 1) := by decide +kernel
theorem dX12_doDropHall_10 : decode cX12_doDropHall 10 = .ok (.iconst 0, 1) := by decide +kernel
theorem dX12_doDropHall_11 : decode cX12_doDropHall 11 = .ok (.iload_n 2, 1) := by decide +kernel
theorem dX12_doDropHall_12 : decode cX12_doDropHall 12 = .ok (.invokestatic 64, 3) := by decide +kernel
theorem dX12_doDropHall_15 : decode cX12_doDropHall 15 = .ok (.ifCond .ne 9, 3) := by decide +kernel
theorem dX12_doDropHall_18 : decode cX12_doDropHall 18 = .ok (.aload_n 0, 1) := by decide +kernel
theorem dX12_doDropHall_19 : decode cX12_doDropHall 19 = .ok (.iconst 1, 1) := by decide +kernel
theorem dX12_doDropHall_20 : decode cX12_doDropHall 20 = .ok (.invokevirtual 88, 3) := by decide +kernel
theorem dX12_doDropHall_23 : decode cX12_doDropHall 23 = .ok (.ireturn, 1) := by decide +kernel
theorem dX12_doDropHall_24 : decode cX12_doDropHall 24 = .ok (.aload_n 0, 1) := by decide +kernel
theorem dX12_doDropHall_25 : decode cX12_doDropHall 25 = .ok (.getfield 9, 3) := by decide +kernel
theorem dX12_doDropHall_28 : decode cX12_doDropHall 28 = .ok (.bipush 127, 2) := by decide +kernel
theorem dX12_doDropHall_30 : decode cX12_doDropHall 30 = .ok (.iconst 3, 1) := by decide +kernel
theorem dX12_doDropHall_31 : decode cX12_doDropHall 31 = .ok (.iload_n 1, 1) := by decide +kernel
theorem dX12_doDropHall_32 : decode cX12_doDropHall 32 = .ok (.iconst 1, 1) := by decide +kernel
theorem dX12_doDropHall_33 : decode cX12_doDropHall 33 = .ok (.iadd, 1) := by decide +kernel
theorem dX12_doDropHall_34 : decode cX12_doDropHall 34 = .ok (.imul, 1) := by decide +kernel
theorem dX12_doDropHall_35 : decode cX12_doDropHall 35 = .ok (.iadd, 1) := by decide +kernel
theorem dX12_doDropHall_36 : decode cX12_doDropHall 36 = .ok (.aload_n 0, 1) := by decide +kernel
theorem dX12_doDropHall_37 : decode cX12_doDropHall 37 = .ok (.getfield 9, 3) := by decide +kernel
theorem dX12_doDropHall_40 : decode cX12_doDropHall 40 = .ok (.bipush 127, 2) := by decide +kernel
theorem dX12_doDropHall_42 : decode cX12_doDropHall 42 = .ok (.iconst 3, 1) := by decide +kernel
theorem dX12_doDropHall_43 : decode cX12_doDropHall 43 = .ok (.iload_n 1, 1) := by decide +kernel
theorem dX12_doDropHall_44 : decode cX12_doDropHall 44 = .ok (.imul, 1) := by decide +kernel
theorem dX12_doDropHall_45 : decode cX12_doDropHall 45 = .ok (.iadd, 1) := by decide +kernel
theorem dX12_doDropHall_46 : decode cX12_doDropHall 46 = .ok (.iconst 3, 1) := by decide +kernel
theorem dX12_doDropHall_47 : decode cX12_doDropHall 47 = .ok (.iload_n 2, 1) := by decide +kernel
theorem dX12_doDropHall_48 : decode cX12_doDropHall 48 = .ok (.iload_n 1, 1) := by decide +kernel
theorem dX12_doDropHall_49 : decode cX12_doDropHall 49 = .ok (.isub, 1) := by decide +kernel
theorem dX12_doDropHall_50 : decode cX12_doDropHall 50 = .ok (.imul, 1) := by decide +kernel
theorem dX12_doDropHall_51 : decode cX12_doDropHall 51 = .ok (.invokestatic 45, 3) := by decide +kernel
theorem dX12_doDropHall_54 : decode cX12_doDropHall 54 = .ok (.aload_n 0, 1) := by decide +kernel
theorem dX12_doDropHall_55 : decode cX12_doDropHall 55 = .ok (.getfield 9, 3) := by decide +kernel
theorem dX12_doDropHall_58 : decode cX12_doDropHall 58 = .ok (.iconst 3, 1) := by decide +kernel
theorem dX12_doDropHall_59 : decode cX12_doDropHall 59 = .ok (.iload_n 2, 1) := by decide +kernel
theorem dX12_doDropHall_60 : decode cX12_doDropHall 60 = .ok (.iastore, 1) := by decide +kernel
theorem dX12_doDropHall_61 : decode cX12_doDropHall 61 = .ok (.iload_n 2, 1) := by decide +kernel
theorem dX12_doDropHall_62 : decode cX12_doDropHall 62 = .ok (.ireturn, 1) := by decide +kernel
theorem k_X12_doDropHall : cardV yX12_doDropHall (Cond.code yX12_doDropHall cX12_doDropHall 3 (some .int)) 1 := ⟨⟨qi_X12_doDropHall, qv_X12_doDropHall⟩, qc_X12_doDropHall, qn_X12, by decide +kernel, by decide +kernel, by decide +kernel⟩
set_option maxHeartbeats 4000000 in
set_option maxRecDepth 100000 in
theorem c_X12_doDropHall (l : Launch) (D : va_G) (g : Nat → ClassId) (q_this q_s q_before q_saved q_past q_steps q_goes q_line q_text q_orders : Nat) (p1 : Int32) (f_isSaved : Int32) (f_pastMany : Int32) (f_thrown : Int32) (f_reason : Int32) (f_detail : Int32) (f_isRefused : Int32) (f_goesMany : Int32) (f_roundSteps : Int32) (f_lineMany : Int32) (f_length : Int32) (f_at : Int32) (f_isWrong : Int32) (f_errorAt : Int32) (f_orderMany : Int32) (a_s : Nat → Int32) (o : Int32 × Int32 × (Nat → Int32)) (h : F_X12_doDropHall p1 f_thrown a_s = some o) : MW l yX12_doDropHall (Cond.code yX12_doDropHall cX12_doDropHall 3 (some .int)) { frames := 1, cells := 0, slots := 0, locals := 40 } D g [.ref q_this, .int p1] [(q_this, .inr (12, [.ref q_s, .ref q_before, .ref q_saved, .int f_isSaved, .ref q_past, .int f_pastMany, .int f_thrown, .int f_reason, .int f_detail, .int f_isRefused, .ref q_steps, .ref q_goes, .int f_goesMany, .int f_roundSteps, .ref q_line, .int f_lineMany, .ref q_text, .int f_length, .int f_at, .int f_isWrong, .int f_errorAt, .ref q_orders, .int f_orderMany])), (q_s, .inl (g 0, 147, .inl a_s))] (some (.int o.1)) [(q_this, .inr (12, [.ref q_s, .ref q_before, .ref q_saved, .int f_isSaved, .ref q_past, .int f_pastMany, .int o.2.1, .int f_reason, .int f_detail, .int f_isRefused, .ref q_steps, .ref q_goes, .int f_goesMany, .int f_roundSteps, .ref q_line, .int f_lineMany, .ref q_text, .int f_length, .int f_at, .int f_isWrong, .int f_errorAt, .ref q_orders, .int f_orderMany])), (q_s, .inl (g 0, 147, .inl o.2.2))] := by
  refine z_wr_start (by decide) (Nat.le_of_ble_eq_true rfl) ?_
  intro p e s m args below meth c Q A X hr hQ hA
  refine z_lv (lv' := [(0, .ref q_this), (1, .int p1)]) rfl ?_
  refine z_aload_n X 0 dX12_doDropHall_0 rfl rfl ?_
  refine z_get (q0 := 0) (k := 0) (ci := 12) X IW_P iw_X12 rfl qf_X12_X12_s (by decide) dX12_doDropHall_1 rfl rfl ?_
  refine z_iconst X (3 : Int32) dX12_doDropHall_4 (by decide) ?_
  refine z_iald (q0 := 1) X IW_P dX12_doDropHall_5 rfl h (fun h => ?_)
  refine z_iconst X (1 : Int32) dX12_doDropHall_6 (by decide) ?_
  refine z_isub X dX12_doDropHall_7 ?_
  refine z_istore_n X [(2, .int ((a_s (3 : Int32).toNatClampNeg) - (1 : Int32))), (0, .ref q_this), (1, .int p1)] dX12_doDropHall_8 rfl (by decide) rfl ?_
  refine z_iload_n X 2 dX12_doDropHall_9 rfl rfl ?_
  refine z_iconst X (0 : Int32) dX12_doDropHall_10 (by decide) ?_
  refine z_iload_n X 0 dX12_doDropHall_11 rfl rfl ?_
  obtain ⟨o1, e2, h⟩ := bnd_p h
  refine z_rdS (rest := []) X IW_P k_X12_in (c_X12_in l D g p1 (0 : Int32) ((a_s (3 : Int32).toNatClampNeg) - (1 : Int32)) o1 e2) ql_X12_X12_in dX12_doDropHall_12 [] rfl rfl rfl ⟨Nat.le_of_ble_eq_true rfl, Nat.le_of_ble_eq_true rfl, rfl, rfl, Nat.le_of_ble_eq_true rfl, Nat.le_of_ble_eq_true rfl⟩ (Nat.le_of_ble_eq_true rfl) ?_
  refine z_if_ne X 24 dX12_doDropHall_15 (by decide) h (fun _ h => ?_) (fun _ h => ?_)
  · refine z_aload_n X 1 dX12_doDropHall_18 rfl rfl ?_
    refine z_iconst X (1 : Int32) dX12_doDropHall_19 (by decide) ?_
    obtain ⟨o3, e4, h⟩ := bnd_p h
    refine z_wrV (rest := []) (q0 := 0) (ci := 12) (ws' := [(q_this, .inr (12, [.ref q_s, .ref q_before, .ref q_saved, .int f_isSaved, .ref q_past, .int f_pastMany, .int o3.2, .int f_reason, .int f_detail, .int f_isRefused, .ref q_steps, .ref q_goes, .int f_goesMany, .int f_roundSteps, .ref q_line, .int f_lineMany, .ref q_text, .int f_length, .int f_at, .int f_isWrong, .int f_errorAt, .ref q_orders, .int f_orderMany])), (q_s, .inl (g 0, 147, .inl a_s))]) (wr := [(q_s, .inl (g 0, 147, .inl a_s))]) (as := [q_this, q_s]) X k_X12_fails (c_X12_fails l D g q_this q_s q_before q_saved q_past q_steps q_goes q_line q_text q_orders (1 : Int32) f_isSaved f_pastMany f_thrown f_reason f_detail f_isRefused f_goesMany f_roundSteps f_lineMany f_length f_at f_isWrong f_errorAt f_orderMany o3 e4) ql_X12_X12_fails dX12_doDropHall_20 [0] [1] ⟨rfl, rfl, rfl, rfl, rfl, rfl, rfl, rfl⟩ rfl rfl rfl rfl rfl ⟨Nat.le_of_ble_eq_true rfl, Nat.le_of_ble_eq_true rfl, rfl, rfl, Nat.le_of_ble_eq_true rfl, Nat.le_of_ble_eq_true rfl⟩ (Nat.le_of_ble_eq_true rfl) ?_
    cases h
    exact z_iretW X hQ hA hr dX12_doDropHall_23
  · refine z_aload_n X 1 dX12_doDropHall_24 rfl rfl ?_
    refine z_get (q0 := 0) (k := 0) (ci := 12) X IW_P iw_X12 rfl qf_X12_X12_s (by decide) dX12_doDropHall_25 rfl rfl ?_
    refine z_bipush X (127 : Int32) dX12_doDropHall_28 (by decide) ?_
    refine z_iconst X (3 : Int32) dX12_doDropHall_30 (by decide) ?_
    refine z_iload_n X 2 dX12_doDropHall_31 rfl rfl ?_
    refine z_iconst X (1 : Int32) dX12_doDropHall_32 (by decide) ?_
    refine z_iadd X dX12_doDropHall_33 ?_
    refine z_imul X dX12_doDropHall_34 ?_
    refine z_iadd X dX12_doDropHall_35 ?_
    refine z_aload_n X 1 dX12_doDropHall_36 rfl rfl ?_
    refine z_get (q0 := 0) (k := 0) (ci := 12) X IW_P iw_X12 rfl qf_X12_X12_s (by decide) dX12_doDropHall_37 rfl rfl ?_
    refine z_bipush X (127 : Int32) dX12_doDropHall_40 (by decide) ?_
    refine z_iconst X (3 : Int32) dX12_doDropHall_42 (by decide) ?_
    refine z_iload_n X 2 dX12_doDropHall_43 rfl rfl ?_
    refine z_imul X dX12_doDropHall_44 ?_
    refine z_iadd X dX12_doDropHall_45 ?_
    refine z_iconst X (3 : Int32) dX12_doDropHall_46 (by decide) ?_
    refine z_iload_n X 0 dX12_doDropHall_47 rfl rfl ?_
    refine z_iload_n X 2 dX12_doDropHall_48 rfl rfl ?_
    refine z_isub X dX12_doDropHall_49 ?_
    refine z_imul X dX12_doDropHall_50 ?_
    refine z_copyi (q0 := 1) (q1 := 1) (ws' := [(q_this, .inr (12, [.ref q_s, .ref q_before, .ref q_saved, .int f_isSaved, .ref q_past, .int f_pastMany, .int f_thrown, .int f_reason, .int f_detail, .int f_isRefused, .ref q_steps, .ref q_goes, .int f_goesMany, .int f_roundSteps, .ref q_line, .int f_lineMany, .ref q_text, .int f_length, .int f_at, .int f_isWrong, .int f_errorAt, .ref q_orders, .int f_orderMany])), (q_s, .inl (g 0, 147, .inl (va_cpy a_s a_s ((127 : Int32) + ((3 : Int32) * (p1 + (1 : Int32)))).toNatClampNeg ((127 : Int32) + ((3 : Int32) * p1)).toNatClampNeg ((3 : Int32) * (((a_s (3 : Int32).toNatClampNeg) - (1 : Int32)) - p1)).toNatClampNeg)))]) X ql_X12_ac dX12_doDropHall_51 rfl rfl h rfl (Nat.le_of_ble_eq_true rfl) (Nat.le_of_ble_eq_true rfl) (fun h => ?_)
    refine z_aload_n X 1 dX12_doDropHall_54 rfl rfl ?_
    refine z_get (q0 := 0) (k := 0) (ci := 12) X IW_P iw_X12 rfl qf_X12_X12_s (by decide) dX12_doDropHall_55 rfl rfl ?_
    refine z_iconst X (3 : Int32) dX12_doDropHall_58 (by decide) ?_
    refine z_iload_n X 0 dX12_doDropHall_59 rfl rfl ?_
    refine z_iast (q0 := 1) (ws' := [(q_this, .inr (12, [.ref q_s, .ref q_before, .ref q_saved, .int f_isSaved, .ref q_past, .int f_pastMany, .int f_thrown, .int f_reason, .int f_detail, .int f_isRefused, .ref q_steps, .ref q_goes, .int f_goesMany, .int f_roundSteps, .ref q_line, .int f_lineMany, .ref q_text, .int f_length, .int f_at, .int f_isWrong, .int f_errorAt, .ref q_orders, .int f_orderMany])), (q_s, .inl (g 0, 147, .inl (upd (va_cpy a_s a_s ((127 : Int32) + ((3 : Int32) * (p1 + (1 : Int32)))).toNatClampNeg ((127 : Int32) + ((3 : Int32) * p1)).toNatClampNeg ((3 : Int32) * (((a_s (3 : Int32).toNatClampNeg) - (1 : Int32)) - p1)).toNatClampNeg) (3 : Int32).toNatClampNeg ((a_s (3 : Int32).toNatClampNeg) - (1 : Int32)))))]) X dX12_doDropHall_60 rfl h rfl (fun h => ?_)
    refine z_iload_n X 0 dX12_doDropHall_61 rfl rfl ?_
    cases h
    exact z_iretW X hQ hA hr dX12_doDropHall_62

def F_X12_dropHall (p1 : Int32) (f_pastMany : Int32) (f_thrown : Int32) (a_s : Nat → Int32) (a_before : Nat → Int32) (a_past : Nat → Int32) : Option (Int32 × Int32 × Int32 × (Nat → Int32) × (Nat → Int32) × (Nat → Int32)) :=
  bnd (F_X12_keep a_s f_thrown a_before) (fun o1 => bnd (F_X12_doDropHall p1 o1.1 a_s) (fun o3 => bnd (F_X12_ends o3.1 o3.2.1 o1.2 f_pastMany o3.2.2 a_past) (fun o5 => some (o5.1, o5.2.1, o3.2.1, o5.2.2.1, o1.2, o5.2.2.2))))
theorem dX12_dropHall_0 : decode cX12_dropHall 0 = .ok (.aload_n 0, 1) := by decide +kernel
theorem dX12_dropHall_1 : decode cX12_dropHall 1 = .ok (.invokevirtual 101, 3) := by decide +kernel
theorem dX12_dropHall_4 : decode cX12_dropHall 4 = .ok (.aload_n 0, 1) := by decide +kernel
theorem dX12_dropHall_5 : decode cX12_dropHall 5 = .ok (.aload_n 0, 1) := by decide +kernel
theorem dX12_dropHall_6 : decode cX12_dropHall 6 = .ok (.iload_n 1, 1) := by decide +kernel
theorem dX12_dropHall_7 : decode cX12_dropHall 7 = .ok (.invokevirtual 125, 3) := by decide +kernel
theorem dX12_dropHall_10 : decode cX12_dropHall 10 = .ok (.invokevirtual 107, 3) := by decide +kernel
theorem dX12_dropHall_13 : decode cX12_dropHall 13 = .ok (.ireturn, 1) := by decide +kernel
theorem k_X12_dropHall : cardV yX12_dropHall (Cond.code yX12_dropHall cX12_dropHall 2 (some .int)) 1 := ⟨⟨qi_X12_dropHall, qv_X12_dropHall⟩, qc_X12_dropHall, qn_X12, by decide +kernel, by decide +kernel, by decide +kernel⟩
set_option maxHeartbeats 4000000 in
set_option maxRecDepth 100000 in
theorem c_X12_dropHall (l : Launch) (D : va_G) (g : Nat → ClassId) (q_this q_s q_before q_saved q_past q_steps q_goes q_line q_text q_orders : Nat) (p1 : Int32) (f_isSaved : Int32) (f_pastMany : Int32) (f_thrown : Int32) (f_reason : Int32) (f_detail : Int32) (f_isRefused : Int32) (f_goesMany : Int32) (f_roundSteps : Int32) (f_lineMany : Int32) (f_length : Int32) (f_at : Int32) (f_isWrong : Int32) (f_errorAt : Int32) (f_orderMany : Int32) (a_s : Nat → Int32) (a_before : Nat → Int32) (a_past : Nat → Int32) (o : Int32 × Int32 × Int32 × (Nat → Int32) × (Nat → Int32) × (Nat → Int32)) (h : F_X12_dropHall p1 f_pastMany f_thrown a_s a_before a_past = some o) : MW l yX12_dropHall (Cond.code yX12_dropHall cX12_dropHall 2 (some .int)) { frames := 2, cells := 0, slots := 0, locals := 62 } D g [.ref q_this, .int p1] [(q_this, .inr (12, [.ref q_s, .ref q_before, .ref q_saved, .int f_isSaved, .ref q_past, .int f_pastMany, .int f_thrown, .int f_reason, .int f_detail, .int f_isRefused, .ref q_steps, .ref q_goes, .int f_goesMany, .int f_roundSteps, .ref q_line, .int f_lineMany, .ref q_text, .int f_length, .int f_at, .int f_isWrong, .int f_errorAt, .ref q_orders, .int f_orderMany])), (q_s, .inl (g 0, 147, .inl a_s)), (q_before, .inl (g 0, 147, .inl a_before)), (q_past, .inl (g 0, 1176, .inl a_past))] (some (.int o.1)) [(q_this, .inr (12, [.ref q_s, .ref q_before, .ref q_saved, .int f_isSaved, .ref q_past, .int o.2.1, .int o.2.2.1, .int f_reason, .int f_detail, .int f_isRefused, .ref q_steps, .ref q_goes, .int f_goesMany, .int f_roundSteps, .ref q_line, .int f_lineMany, .ref q_text, .int f_length, .int f_at, .int f_isWrong, .int f_errorAt, .ref q_orders, .int f_orderMany])), (q_s, .inl (g 0, 147, .inl o.2.2.2.1)), (q_before, .inl (g 0, 147, .inl o.2.2.2.2.1)), (q_past, .inl (g 0, 1176, .inl o.2.2.2.2.2))] := by
  refine z_wr_start (by decide) (Nat.le_of_ble_eq_true rfl) ?_
  intro p e s m args below meth c Q A X hr hQ hA
  refine z_lv (lv' := [(0, .ref q_this), (1, .int p1)]) rfl ?_
  refine z_aload_n X 0 dX12_dropHall_0 rfl rfl ?_
  obtain ⟨o1, e2, h⟩ := bnd_p h
  refine z_wrV (rest := []) (q0 := 0) (ci := 12) (ws' := [(q_this, .inr (12, [.ref q_s, .ref q_before, .ref q_saved, .int f_isSaved, .ref q_past, .int f_pastMany, .int o1.1, .int f_reason, .int f_detail, .int f_isRefused, .ref q_steps, .ref q_goes, .int f_goesMany, .int f_roundSteps, .ref q_line, .int f_lineMany, .ref q_text, .int f_length, .int f_at, .int f_isWrong, .int f_errorAt, .ref q_orders, .int f_orderMany])), (q_s, .inl (g 0, 147, .inl a_s)), (q_before, .inl (g 0, 147, .inl o1.2)), (q_past, .inl (g 0, 1176, .inl a_past))]) (wr := [(q_past, .inl (g 0, 1176, .inl a_past))]) (as := [q_this, q_s, q_before, q_past]) X k_X12_keep (c_X12_keep l D g q_this q_s q_before q_saved q_past q_steps q_goes q_line q_text q_orders f_isSaved f_pastMany f_thrown f_reason f_detail f_isRefused f_goesMany f_roundSteps f_lineMany f_length f_at f_isWrong f_errorAt f_orderMany a_s a_before o1 e2) ql_X12_X12_keep dX12_dropHall_1 [0, 1, 2] [3] ⟨rfl, rfl, rfl, rfl, rfl, rfl, rfl, rfl⟩ rfl rfl rfl rfl rfl ⟨Nat.le_of_ble_eq_true rfl, Nat.le_of_ble_eq_true rfl, rfl, rfl, Nat.le_of_ble_eq_true rfl, Nat.le_of_ble_eq_true rfl⟩ (Nat.le_of_ble_eq_true rfl) ?_
  refine z_aload_n X 0 dX12_dropHall_4 rfl rfl ?_
  refine z_aload_n X 0 dX12_dropHall_5 rfl rfl ?_
  refine z_iload_n X 1 dX12_dropHall_6 rfl rfl ?_
  obtain ⟨o3, e4, h⟩ := bnd_p h
  refine z_wrV (rest := [.ref q_this]) (q0 := 0) (ci := 12) (ws' := [(q_this, .inr (12, [.ref q_s, .ref q_before, .ref q_saved, .int f_isSaved, .ref q_past, .int f_pastMany, .int o3.2.1, .int f_reason, .int f_detail, .int f_isRefused, .ref q_steps, .ref q_goes, .int f_goesMany, .int f_roundSteps, .ref q_line, .int f_lineMany, .ref q_text, .int f_length, .int f_at, .int f_isWrong, .int f_errorAt, .ref q_orders, .int f_orderMany])), (q_s, .inl (g 0, 147, .inl o3.2.2)), (q_before, .inl (g 0, 147, .inl o1.2)), (q_past, .inl (g 0, 1176, .inl a_past))]) (wr := [(q_before, .inl (g 0, 147, .inl o1.2)), (q_past, .inl (g 0, 1176, .inl a_past))]) (as := [q_this, q_s, q_before, q_past]) X k_X12_doDropHall (c_X12_doDropHall l D g q_this q_s q_before q_saved q_past q_steps q_goes q_line q_text q_orders p1 f_isSaved f_pastMany o1.1 f_reason f_detail f_isRefused f_goesMany f_roundSteps f_lineMany f_length f_at f_isWrong f_errorAt f_orderMany a_s o3 e4) ql_X12_X12_doDropHall dX12_dropHall_7 [0, 1] [2, 3] ⟨rfl, rfl, rfl, rfl, rfl, rfl, rfl, rfl⟩ rfl rfl rfl rfl rfl ⟨Nat.le_of_ble_eq_true rfl, Nat.le_of_ble_eq_true rfl, rfl, rfl, Nat.le_of_ble_eq_true rfl, Nat.le_of_ble_eq_true rfl⟩ (Nat.le_of_ble_eq_true rfl) ?_
  obtain ⟨o5, e6, h⟩ := bnd_p h
  refine z_wrV (rest := []) (q0 := 0) (ci := 12) (ws' := [(q_this, .inr (12, [.ref q_s, .ref q_before, .ref q_saved, .int f_isSaved, .ref q_past, .int o5.2.1, .int o3.2.1, .int f_reason, .int f_detail, .int f_isRefused, .ref q_steps, .ref q_goes, .int f_goesMany, .int f_roundSteps, .ref q_line, .int f_lineMany, .ref q_text, .int f_length, .int f_at, .int f_isWrong, .int f_errorAt, .ref q_orders, .int f_orderMany])), (q_s, .inl (g 0, 147, .inl o5.2.2.1)), (q_before, .inl (g 0, 147, .inl o1.2)), (q_past, .inl (g 0, 1176, .inl o5.2.2.2))]) (wr := []) (as := [q_this, q_s, q_before, q_past]) X k_X12_ends (c_X12_ends l D g q_this q_s q_before q_saved q_past q_steps q_goes q_line q_text q_orders o3.1 f_isSaved f_pastMany o3.2.1 f_reason f_detail f_isRefused f_goesMany f_roundSteps f_lineMany f_length f_at f_isWrong f_errorAt f_orderMany o3.2.2 o1.2 a_past o5 e6) ql_X12_X12_ends dX12_dropHall_10 [0, 1, 2, 3] [] ⟨rfl, rfl, rfl, rfl, rfl, rfl, rfl, rfl⟩ rfl rfl rfl rfl rfl ⟨Nat.le_of_ble_eq_true rfl, Nat.le_of_ble_eq_true rfl, rfl, rfl, Nat.le_of_ble_eq_true rfl, Nat.le_of_ble_eq_true rfl⟩ (Nat.le_of_ble_eq_true rfl) ?_
  cases h
  exact z_iretW X hQ hA hr dX12_dropHall_13

def F_X12_doPass (p1 : Int32) (f_thrown : Int32) (a_s : Nat → Int32) : Option (Int32 × Int32 × (Nat → Int32)) :=
  bnd (F_X12_in p1 (1 : Int32) (99 : Int32)) (fun o1 => brn (o1 = 0) (bnd (F_X12_fails (1 : Int32) f_thrown) (fun o3 => some (o3.1, o3.2, a_s))) (grd (inb (1 : Int32) 147) (grd (inb (0 : Int32) 147) (grd (inb (1 : Int32) 147) (grd (inb (0 : Int32) 147) (grd (inb (0 : Int32) 147) (grd (inb (0 : Int32) 147) (some ((upd (upd a_s (1 : Int32).toNatClampNeg ((a_s (1 : Int32).toNatClampNeg) + (((a_s (0 : Int32).toNatClampNeg) + p1) / (24 : Int32)))) (0 : Int32).toNatClampNeg ((((upd a_s (1 : Int32).toNatClampNeg ((a_s (1 : Int32).toNatClampNeg) + (((a_s (0 : Int32).toNatClampNeg) + p1) / (24 : Int32)))) (0 : Int32).toNatClampNeg) + p1) - (((upd a_s (1 : Int32).toNatClampNeg ((a_s (1 : Int32).toNatClampNeg) + (((a_s (0 : Int32).toNatClampNeg) + p1) / (24 : Int32)))) (0 : Int32).toNatClampNeg) + p1) / (24 : Int32) * (24 : Int32))) (0 : Int32).toNatClampNeg, f_thrown, (upd (upd a_s (1 : Int32).toNatClampNeg ((a_s (1 : Int32).toNatClampNeg) + (((a_s (0 : Int32).toNatClampNeg) + p1) / (24 : Int32)))) (0 : Int32).toNatClampNeg ((((upd a_s (1 : Int32).toNatClampNeg ((a_s (1 : Int32).toNatClampNeg) + (((a_s (0 : Int32).toNatClampNeg) + p1) / (24 : Int32)))) (0 : Int32).toNatClampNeg) + p1) - (((upd a_s (1 : Int32).toNatClampNeg ((a_s (1 : Int32).toNatClampNeg) + (((a_s (0 : Int32).toNatClampNeg) + p1) / (24 : Int32)))) (0 : Int32).toNatClampNeg) + p1) / (24 : Int32) * (24 : Int32))))))))))))
theorem dX12_doPass_0 : decode cX12_doPass 0 = .ok (.iload_n 1, 1) := by decide +kernel
theorem dX12_doPass_1 : decode cX12_doPass 1 = .ok (.iconst 1, 1) := by decide +kernel
theorem dX12_doPass_2 : decode cX12_doPass 2 = .ok (.bipush 99, 2) := by decide +kernel
theorem dX12_doPass_4 : decode cX12_doPass 4 = .ok (.invokestatic 64, 3) := by decide +kernel
theorem dX12_doPass_7 : decode cX12_doPass 7 = .ok (.ifCond .ne 9, 3) := by decide +kernel
theorem dX12_doPass_10 : decode cX12_doPass 10 = .ok (.aload_n 0, 1) := by decide +kernel
theorem dX12_doPass_11 : decode cX12_doPass 11 = .ok (.iconst 1, 1) := by decide +kernel
theorem dX12_doPass_12 : decode cX12_doPass 12 = .ok (.invokevirtual 88, 3) := by decide +kernel
theorem dX12_doPass_15 : decode cX12_doPass 15 = .ok (.ireturn, 1) := by decide +kernel
theorem dX12_doPass_16 : decode cX12_doPass 16 = .ok (.aload_n 0, 1) := by decide +kernel
theorem dX12_doPass_17 : decode cX12_doPass 17 = .ok (.getfield 9, 3) := by decide +kernel
theorem dX12_doPass_20 : decode cX12_doPass 20 = .ok (.iconst 1, 1) := by decide +kernel
theorem dX12_doPass_21 : decode cX12_doPass 21 = .ok (.dup2, 1) := by decide +kernel
theorem dX12_doPass_22 : decode cX12_doPass 22 = .ok (.iaload, 1) := by decide +kernel
theorem dX12_doPass_23 : decode cX12_doPass 23 = .ok (.aload_n 0, 1) := by decide +kernel
theorem dX12_doPass_24 : decode cX12_doPass 24 = .ok (.getfield 9, 3) := by decide +kernel
theorem dX12_doPass_27 : decode cX12_doPass 27 = .ok (.iconst 0, 1) := by decide +kernel
theorem dX12_doPass_28 : decode cX12_doPass 28 = .ok (.iaload, 1) := by decide +kernel
theorem dX12_doPass_29 : decode cX12_doPass 29 = .ok (.iload_n 1, 1) := by decide +kernel
theorem dX12_doPass_30 : decode cX12_doPass 30 = .ok (.iadd, 1) := by decide +kernel
theorem dX12_doPass_31 : decode cX12_doPass 31 = .ok (.bipush 24, 2) := by decide +kernel
theorem dX12_doPass_33 : decode cX12_doPass 33 = .ok (.idiv, 1) := by decide +kernel
theorem dX12_doPass_34 : decode cX12_doPass 34 = .ok (.iadd, 1) := by decide +kernel
theorem dX12_doPass_35 : decode cX12_doPass 35 = .ok (.iastore, 1) := by decide +kernel
theorem dX12_doPass_36 : decode cX12_doPass 36 = .ok (.aload_n 0, 1) := by decide +kernel
theorem dX12_doPass_37 : decode cX12_doPass 37 = .ok (.getfield 9, 3) := by decide +kernel
theorem dX12_doPass_40 : decode cX12_doPass 40 = .ok (.iconst 0, 1) := by decide +kernel
theorem dX12_doPass_41 : decode cX12_doPass 41 = .ok (.aload_n 0, 1) := by decide +kernel
theorem dX12_doPass_42 : decode cX12_doPass 42 = .ok (.getfield 9, 3) := by decide +kernel
theorem dX12_doPass_45 : decode cX12_doPass 45 = .ok (.iconst 0, 1) := by decide +kernel
theorem dX12_doPass_46 : decode cX12_doPass 46 = .ok (.iaload, 1) := by decide +kernel
theorem dX12_doPass_47 : decode cX12_doPass 47 = .ok (.iload_n 1, 1) := by decide +kernel
theorem dX12_doPass_48 : decode cX12_doPass 48 = .ok (.iadd, 1) := by decide +kernel
theorem dX12_doPass_49 : decode cX12_doPass 49 = .ok (.bipush 24, 2) := by decide +kernel
theorem dX12_doPass_51 : decode cX12_doPass 51 = .ok (.irem, 1) := by decide +kernel
theorem dX12_doPass_52 : decode cX12_doPass 52 = .ok (.iastore, 1) := by decide +kernel
theorem dX12_doPass_53 : decode cX12_doPass 53 = .ok (.aload_n 0, 1) := by decide +kernel
theorem dX12_doPass_54 : decode cX12_doPass 54 = .ok (.getfield 9, 3) := by decide +kernel
theorem dX12_doPass_57 : decode cX12_doPass 57 = .ok (.iconst 0, 1) := by decide +kernel
theorem dX12_doPass_58 : decode cX12_doPass 58 = .ok (.iaload, 1) := by decide +kernel
theorem dX12_doPass_59 : decode cX12_doPass 59 = .ok (.ireturn, 1) := by decide +kernel
theorem k_X12_doPass : cardV yX12_doPass (Cond.code yX12_doPass cX12_doPass 2 (some .int)) 1 := ⟨⟨qi_X12_doPass, qv_X12_doPass⟩, qc_X12_doPass, qn_X12, by decide +kernel, by decide +kernel, by decide +kernel⟩
set_option maxHeartbeats 4000000 in
set_option maxRecDepth 100000 in
theorem c_X12_doPass (l : Launch) (D : va_G) (g : Nat → ClassId) (q_this q_s q_before q_saved q_past q_steps q_goes q_line q_text q_orders : Nat) (p1 : Int32) (f_isSaved : Int32) (f_pastMany : Int32) (f_thrown : Int32) (f_reason : Int32) (f_detail : Int32) (f_isRefused : Int32) (f_goesMany : Int32) (f_roundSteps : Int32) (f_lineMany : Int32) (f_length : Int32) (f_at : Int32) (f_isWrong : Int32) (f_errorAt : Int32) (f_orderMany : Int32) (a_s : Nat → Int32) (o : Int32 × Int32 × (Nat → Int32)) (h : F_X12_doPass p1 f_thrown a_s = some o) : MW l yX12_doPass (Cond.code yX12_doPass cX12_doPass 2 (some .int)) { frames := 1, cells := 0, slots := 0, locals := 22 } D g [.ref q_this, .int p1] [(q_this, .inr (12, [.ref q_s, .ref q_before, .ref q_saved, .int f_isSaved, .ref q_past, .int f_pastMany, .int f_thrown, .int f_reason, .int f_detail, .int f_isRefused, .ref q_steps, .ref q_goes, .int f_goesMany, .int f_roundSteps, .ref q_line, .int f_lineMany, .ref q_text, .int f_length, .int f_at, .int f_isWrong, .int f_errorAt, .ref q_orders, .int f_orderMany])), (q_s, .inl (g 0, 147, .inl a_s))] (some (.int o.1)) [(q_this, .inr (12, [.ref q_s, .ref q_before, .ref q_saved, .int f_isSaved, .ref q_past, .int f_pastMany, .int o.2.1, .int f_reason, .int f_detail, .int f_isRefused, .ref q_steps, .ref q_goes, .int f_goesMany, .int f_roundSteps, .ref q_line, .int f_lineMany, .ref q_text, .int f_length, .int f_at, .int f_isWrong, .int f_errorAt, .ref q_orders, .int f_orderMany])), (q_s, .inl (g 0, 147, .inl o.2.2))] := by
  refine z_wr_start (by decide) (Nat.le_of_ble_eq_true rfl) ?_
  intro p e s m args below meth c Q A X hr hQ hA
  refine z_lv (lv' := [(0, .ref q_this), (1, .int p1)]) rfl ?_
  refine z_iload_n X 1 dX12_doPass_0 rfl rfl ?_
  refine z_iconst X (1 : Int32) dX12_doPass_1 (by decide) ?_
  refine z_bipush X (99 : Int32) dX12_doPass_2 (by decide) ?_
  obtain ⟨o1, e2, h⟩ := bnd_p h
  refine z_rdS (rest := []) X IW_P k_X12_in (c_X12_in l D g p1 (1 : Int32) (99 : Int32) o1 e2) ql_X12_X12_in dX12_doPass_4 [] rfl rfl rfl ⟨Nat.le_of_ble_eq_true rfl, Nat.le_of_ble_eq_true rfl, rfl, rfl, Nat.le_of_ble_eq_true rfl, Nat.le_of_ble_eq_true rfl⟩ (Nat.le_of_ble_eq_true rfl) ?_
  refine z_if_ne X 16 dX12_doPass_7 (by decide) h (fun _ h => ?_) (fun _ h => ?_)
  · refine z_aload_n X 0 dX12_doPass_10 rfl rfl ?_
    refine z_iconst X (1 : Int32) dX12_doPass_11 (by decide) ?_
    obtain ⟨o3, e4, h⟩ := bnd_p h
    refine z_wrV (rest := []) (q0 := 0) (ci := 12) (ws' := [(q_this, .inr (12, [.ref q_s, .ref q_before, .ref q_saved, .int f_isSaved, .ref q_past, .int f_pastMany, .int o3.2, .int f_reason, .int f_detail, .int f_isRefused, .ref q_steps, .ref q_goes, .int f_goesMany, .int f_roundSteps, .ref q_line, .int f_lineMany, .ref q_text, .int f_length, .int f_at, .int f_isWrong, .int f_errorAt, .ref q_orders, .int f_orderMany])), (q_s, .inl (g 0, 147, .inl a_s))]) (wr := [(q_s, .inl (g 0, 147, .inl a_s))]) (as := [q_this, q_s]) X k_X12_fails (c_X12_fails l D g q_this q_s q_before q_saved q_past q_steps q_goes q_line q_text q_orders (1 : Int32) f_isSaved f_pastMany f_thrown f_reason f_detail f_isRefused f_goesMany f_roundSteps f_lineMany f_length f_at f_isWrong f_errorAt f_orderMany o3 e4) ql_X12_X12_fails dX12_doPass_12 [0] [1] ⟨rfl, rfl, rfl, rfl, rfl, rfl, rfl, rfl⟩ rfl rfl rfl rfl rfl ⟨Nat.le_of_ble_eq_true rfl, Nat.le_of_ble_eq_true rfl, rfl, rfl, Nat.le_of_ble_eq_true rfl, Nat.le_of_ble_eq_true rfl⟩ (Nat.le_of_ble_eq_true rfl) ?_
    cases h
    exact z_iretW X hQ hA hr dX12_doPass_15
  · refine z_aload_n X 0 dX12_doPass_16 rfl rfl ?_
    refine z_get (q0 := 0) (k := 0) (ci := 12) X IW_P iw_X12 rfl qf_X12_X12_s (by decide) dX12_doPass_17 rfl rfl ?_
    refine z_iconst X (1 : Int32) dX12_doPass_20 (by decide) ?_
    refine z_dup2 X dX12_doPass_21 rfl rfl ?_
    refine z_iald (q0 := 1) X IW_P dX12_doPass_22 rfl h (fun h => ?_)
    refine z_aload_n X 0 dX12_doPass_23 rfl rfl ?_
    refine z_get (q0 := 0) (k := 0) (ci := 12) X IW_P iw_X12 rfl qf_X12_X12_s (by decide) dX12_doPass_24 rfl rfl ?_
    refine z_iconst X (0 : Int32) dX12_doPass_27 (by decide) ?_
    refine z_iald (q0 := 1) X IW_P dX12_doPass_28 rfl h (fun h => ?_)
    refine z_iload_n X 1 dX12_doPass_29 rfl rfl ?_
    refine z_iadd X dX12_doPass_30 ?_
    refine z_bipush X (24 : Int32) dX12_doPass_31 (by decide) ?_
    refine z_idiv X dX12_doPass_33 (by decide) ?_
    refine z_iadd X dX12_doPass_34 ?_
    refine z_iast (q0 := 1) (ws' := [(q_this, .inr (12, [.ref q_s, .ref q_before, .ref q_saved, .int f_isSaved, .ref q_past, .int f_pastMany, .int f_thrown, .int f_reason, .int f_detail, .int f_isRefused, .ref q_steps, .ref q_goes, .int f_goesMany, .int f_roundSteps, .ref q_line, .int f_lineMany, .ref q_text, .int f_length, .int f_at, .int f_isWrong, .int f_errorAt, .ref q_orders, .int f_orderMany])), (q_s, .inl (g 0, 147, .inl (upd a_s (1 : Int32).toNatClampNeg ((a_s (1 : Int32).toNatClampNeg) + (((a_s (0 : Int32).toNatClampNeg) + p1) / (24 : Int32))))))]) X dX12_doPass_35 rfl h rfl (fun h => ?_)
    refine z_aload_n X 0 dX12_doPass_36 rfl rfl ?_
    refine z_get (q0 := 0) (k := 0) (ci := 12) X IW_P iw_X12 rfl qf_X12_X12_s (by decide) dX12_doPass_37 rfl rfl ?_
    refine z_iconst X (0 : Int32) dX12_doPass_40 (by decide) ?_
    refine z_aload_n X 0 dX12_doPass_41 rfl rfl ?_
    refine z_get (q0 := 0) (k := 0) (ci := 12) X IW_P iw_X12 rfl qf_X12_X12_s (by decide) dX12_doPass_42 rfl rfl ?_
    refine z_iconst X (0 : Int32) dX12_doPass_45 (by decide) ?_
    refine z_iald (q0 := 1) X IW_P dX12_doPass_46 rfl h (fun h => ?_)
    refine z_iload_n X 1 dX12_doPass_47 rfl rfl ?_
    refine z_iadd X dX12_doPass_48 ?_
    refine z_bipush X (24 : Int32) dX12_doPass_49 (by decide) ?_
    refine z_irem X dX12_doPass_51 (by decide) ?_
    refine z_iast (q0 := 1) (ws' := [(q_this, .inr (12, [.ref q_s, .ref q_before, .ref q_saved, .int f_isSaved, .ref q_past, .int f_pastMany, .int f_thrown, .int f_reason, .int f_detail, .int f_isRefused, .ref q_steps, .ref q_goes, .int f_goesMany, .int f_roundSteps, .ref q_line, .int f_lineMany, .ref q_text, .int f_length, .int f_at, .int f_isWrong, .int f_errorAt, .ref q_orders, .int f_orderMany])), (q_s, .inl (g 0, 147, .inl (upd (upd a_s (1 : Int32).toNatClampNeg ((a_s (1 : Int32).toNatClampNeg) + (((a_s (0 : Int32).toNatClampNeg) + p1) / (24 : Int32)))) (0 : Int32).toNatClampNeg ((((upd a_s (1 : Int32).toNatClampNeg ((a_s (1 : Int32).toNatClampNeg) + (((a_s (0 : Int32).toNatClampNeg) + p1) / (24 : Int32)))) (0 : Int32).toNatClampNeg) + p1) - (((upd a_s (1 : Int32).toNatClampNeg ((a_s (1 : Int32).toNatClampNeg) + (((a_s (0 : Int32).toNatClampNeg) + p1) / (24 : Int32)))) (0 : Int32).toNatClampNeg) + p1) / (24 : Int32) * (24 : Int32)))))]) X dX12_doPass_52 rfl h rfl (fun h => ?_)
    refine z_aload_n X 0 dX12_doPass_53 rfl rfl ?_
    refine z_get (q0 := 0) (k := 0) (ci := 12) X IW_P iw_X12 rfl qf_X12_X12_s (by decide) dX12_doPass_54 rfl rfl ?_
    refine z_iconst X (0 : Int32) dX12_doPass_57 (by decide) ?_
    refine z_iald (q0 := 1) X IW_P dX12_doPass_58 rfl h (fun h => ?_)
    cases h
    exact z_iretW X hQ hA hr dX12_doPass_59

def F_X12_pass (p1 : Int32) (f_pastMany : Int32) (f_thrown : Int32) (a_s : Nat → Int32) (a_before : Nat → Int32) (a_past : Nat → Int32) : Option (Int32 × Int32 × Int32 × (Nat → Int32) × (Nat → Int32) × (Nat → Int32)) :=
  bnd (F_X12_keep a_s f_thrown a_before) (fun o1 => bnd (F_X12_doPass p1 o1.1 a_s) (fun o3 => bnd (F_X12_ends o3.1 o3.2.1 o1.2 f_pastMany o3.2.2 a_past) (fun o5 => some (o5.1, o5.2.1, o3.2.1, o5.2.2.1, o1.2, o5.2.2.2))))
theorem dX12_pass_0 : decode cX12_pass 0 = .ok (.aload_n 0, 1) := by decide +kernel
theorem dX12_pass_1 : decode cX12_pass 1 = .ok (.invokevirtual 101, 3) := by decide +kernel
theorem dX12_pass_4 : decode cX12_pass 4 = .ok (.aload_n 0, 1) := by decide +kernel
theorem dX12_pass_5 : decode cX12_pass 5 = .ok (.aload_n 0, 1) := by decide +kernel
theorem dX12_pass_6 : decode cX12_pass 6 = .ok (.iload_n 1, 1) := by decide +kernel
theorem dX12_pass_7 : decode cX12_pass 7 = .ok (.invokevirtual 128, 3) := by decide +kernel
theorem dX12_pass_10 : decode cX12_pass 10 = .ok (.invokevirtual 107, 3) := by decide +kernel
theorem dX12_pass_13 : decode cX12_pass 13 = .ok (.ireturn, 1) := by decide +kernel
theorem k_X12_pass : cardV yX12_pass (Cond.code yX12_pass cX12_pass 2 (some .int)) 1 := ⟨⟨qi_X12_pass, qv_X12_pass⟩, qc_X12_pass, qn_X12, by decide +kernel, by decide +kernel, by decide +kernel⟩
set_option maxHeartbeats 4000000 in
set_option maxRecDepth 100000 in
theorem c_X12_pass (l : Launch) (D : va_G) (g : Nat → ClassId) (q_this q_s q_before q_saved q_past q_steps q_goes q_line q_text q_orders : Nat) (p1 : Int32) (f_isSaved : Int32) (f_pastMany : Int32) (f_thrown : Int32) (f_reason : Int32) (f_detail : Int32) (f_isRefused : Int32) (f_goesMany : Int32) (f_roundSteps : Int32) (f_lineMany : Int32) (f_length : Int32) (f_at : Int32) (f_isWrong : Int32) (f_errorAt : Int32) (f_orderMany : Int32) (a_s : Nat → Int32) (a_before : Nat → Int32) (a_past : Nat → Int32) (o : Int32 × Int32 × Int32 × (Nat → Int32) × (Nat → Int32) × (Nat → Int32)) (h : F_X12_pass p1 f_pastMany f_thrown a_s a_before a_past = some o) : MW l yX12_pass (Cond.code yX12_pass cX12_pass 2 (some .int)) { frames := 2, cells := 0, slots := 0, locals := 61 } D g [.ref q_this, .int p1] [(q_this, .inr (12, [.ref q_s, .ref q_before, .ref q_saved, .int f_isSaved, .ref q_past, .int f_pastMany, .int f_thrown, .int f_reason, .int f_detail, .int f_isRefused, .ref q_steps, .ref q_goes, .int f_goesMany, .int f_roundSteps, .ref q_line, .int f_lineMany, .ref q_text, .int f_length, .int f_at, .int f_isWrong, .int f_errorAt, .ref q_orders, .int f_orderMany])), (q_s, .inl (g 0, 147, .inl a_s)), (q_before, .inl (g 0, 147, .inl a_before)), (q_past, .inl (g 0, 1176, .inl a_past))] (some (.int o.1)) [(q_this, .inr (12, [.ref q_s, .ref q_before, .ref q_saved, .int f_isSaved, .ref q_past, .int o.2.1, .int o.2.2.1, .int f_reason, .int f_detail, .int f_isRefused, .ref q_steps, .ref q_goes, .int f_goesMany, .int f_roundSteps, .ref q_line, .int f_lineMany, .ref q_text, .int f_length, .int f_at, .int f_isWrong, .int f_errorAt, .ref q_orders, .int f_orderMany])), (q_s, .inl (g 0, 147, .inl o.2.2.2.1)), (q_before, .inl (g 0, 147, .inl o.2.2.2.2.1)), (q_past, .inl (g 0, 1176, .inl o.2.2.2.2.2))] := by
  refine z_wr_start (by decide) (Nat.le_of_ble_eq_true rfl) ?_
  intro p e s m args below meth c Q A X hr hQ hA
  refine z_lv (lv' := [(0, .ref q_this), (1, .int p1)]) rfl ?_
  refine z_aload_n X 0 dX12_pass_0 rfl rfl ?_
  obtain ⟨o1, e2, h⟩ := bnd_p h
  refine z_wrV (rest := []) (q0 := 0) (ci := 12) (ws' := [(q_this, .inr (12, [.ref q_s, .ref q_before, .ref q_saved, .int f_isSaved, .ref q_past, .int f_pastMany, .int o1.1, .int f_reason, .int f_detail, .int f_isRefused, .ref q_steps, .ref q_goes, .int f_goesMany, .int f_roundSteps, .ref q_line, .int f_lineMany, .ref q_text, .int f_length, .int f_at, .int f_isWrong, .int f_errorAt, .ref q_orders, .int f_orderMany])), (q_s, .inl (g 0, 147, .inl a_s)), (q_before, .inl (g 0, 147, .inl o1.2)), (q_past, .inl (g 0, 1176, .inl a_past))]) (wr := [(q_past, .inl (g 0, 1176, .inl a_past))]) (as := [q_this, q_s, q_before, q_past]) X k_X12_keep (c_X12_keep l D g q_this q_s q_before q_saved q_past q_steps q_goes q_line q_text q_orders f_isSaved f_pastMany f_thrown f_reason f_detail f_isRefused f_goesMany f_roundSteps f_lineMany f_length f_at f_isWrong f_errorAt f_orderMany a_s a_before o1 e2) ql_X12_X12_keep dX12_pass_1 [0, 1, 2] [3] ⟨rfl, rfl, rfl, rfl, rfl, rfl, rfl, rfl⟩ rfl rfl rfl rfl rfl ⟨Nat.le_of_ble_eq_true rfl, Nat.le_of_ble_eq_true rfl, rfl, rfl, Nat.le_of_ble_eq_true rfl, Nat.le_of_ble_eq_true rfl⟩ (Nat.le_of_ble_eq_true rfl) ?_
  refine z_aload_n X 0 dX12_pass_4 rfl rfl ?_
  refine z_aload_n X 0 dX12_pass_5 rfl rfl ?_
  refine z_iload_n X 1 dX12_pass_6 rfl rfl ?_
  obtain ⟨o3, e4, h⟩ := bnd_p h
  refine z_wrV (rest := [.ref q_this]) (q0 := 0) (ci := 12) (ws' := [(q_this, .inr (12, [.ref q_s, .ref q_before, .ref q_saved, .int f_isSaved, .ref q_past, .int f_pastMany, .int o3.2.1, .int f_reason, .int f_detail, .int f_isRefused, .ref q_steps, .ref q_goes, .int f_goesMany, .int f_roundSteps, .ref q_line, .int f_lineMany, .ref q_text, .int f_length, .int f_at, .int f_isWrong, .int f_errorAt, .ref q_orders, .int f_orderMany])), (q_s, .inl (g 0, 147, .inl o3.2.2)), (q_before, .inl (g 0, 147, .inl o1.2)), (q_past, .inl (g 0, 1176, .inl a_past))]) (wr := [(q_before, .inl (g 0, 147, .inl o1.2)), (q_past, .inl (g 0, 1176, .inl a_past))]) (as := [q_this, q_s, q_before, q_past]) X k_X12_doPass (c_X12_doPass l D g q_this q_s q_before q_saved q_past q_steps q_goes q_line q_text q_orders p1 f_isSaved f_pastMany o1.1 f_reason f_detail f_isRefused f_goesMany f_roundSteps f_lineMany f_length f_at f_isWrong f_errorAt f_orderMany a_s o3 e4) ql_X12_X12_doPass dX12_pass_7 [0, 1] [2, 3] ⟨rfl, rfl, rfl, rfl, rfl, rfl, rfl, rfl⟩ rfl rfl rfl rfl rfl ⟨Nat.le_of_ble_eq_true rfl, Nat.le_of_ble_eq_true rfl, rfl, rfl, Nat.le_of_ble_eq_true rfl, Nat.le_of_ble_eq_true rfl⟩ (Nat.le_of_ble_eq_true rfl) ?_
  obtain ⟨o5, e6, h⟩ := bnd_p h
  refine z_wrV (rest := []) (q0 := 0) (ci := 12) (ws' := [(q_this, .inr (12, [.ref q_s, .ref q_before, .ref q_saved, .int f_isSaved, .ref q_past, .int o5.2.1, .int o3.2.1, .int f_reason, .int f_detail, .int f_isRefused, .ref q_steps, .ref q_goes, .int f_goesMany, .int f_roundSteps, .ref q_line, .int f_lineMany, .ref q_text, .int f_length, .int f_at, .int f_isWrong, .int f_errorAt, .ref q_orders, .int f_orderMany])), (q_s, .inl (g 0, 147, .inl o5.2.2.1)), (q_before, .inl (g 0, 147, .inl o1.2)), (q_past, .inl (g 0, 1176, .inl o5.2.2.2))]) (wr := []) (as := [q_this, q_s, q_before, q_past]) X k_X12_ends (c_X12_ends l D g q_this q_s q_before q_saved q_past q_steps q_goes q_line q_text q_orders o3.1 f_isSaved f_pastMany o3.2.1 f_reason f_detail f_isRefused f_goesMany f_roundSteps f_lineMany f_length f_at f_isWrong f_errorAt f_orderMany o3.2.2 o1.2 a_past o5 e6) ql_X12_X12_ends dX12_pass_10 [0, 1, 2, 3] [] ⟨rfl, rfl, rfl, rfl, rfl, rfl, rfl, rfl⟩ rfl rfl rfl rfl rfl ⟨Nat.le_of_ble_eq_true rfl, Nat.le_of_ble_eq_true rfl, rfl, rfl, Nat.le_of_ble_eq_true rfl, Nat.le_of_ble_eq_true rfl⟩ (Nat.le_of_ble_eq_true rfl) ?_
  cases h
  exact z_iretW X hQ hA hr dX12_pass_13

def F_X12_sleep (p1 : Int32) (a_s : Nat → Int32) : Option (Int32) :=
  bnd (F_X12_at p1 (2 : Int32)) (fun o1 => grd (inb o1 147) (bnd (F_X12_at p1 (1 : Int32)) (fun o3 => grd (inb o3 147) (some ((((a_s o1.toNatClampNeg) - (a_s o3.toNatClampNeg)) + (24 : Int32)) - (((a_s o1.toNatClampNeg) - (a_s o3.toNatClampNeg)) + (24 : Int32)) / (24 : Int32) * (24 : Int32))))))
theorem dX12_sleep_0 : decode cX12_sleep 0 = .ok (.aload_n 0, 1) := by decide +kernel
theorem dX12_sleep_1 : decode cX12_sleep 1 = .ok (.getfield 9, 3) := by decide +kernel
theorem dX12_sleep_4 : decode cX12_sleep 4 = .ok (.iload_n 1, 1) := by decide +kernel
theorem dX12_sleep_5 : decode cX12_sleep 5 = .ok (.iconst 2, 1) := by decide +kernel
theorem dX12_sleep_6 : decode cX12_sleep 6 = .ok (.invokestatic 68, 3) := by decide +kernel
theorem dX12_sleep_9 : decode cX12_sleep 9 = .ok (.iaload, 1) := by decide +kernel
theorem dX12_sleep_10 : decode cX12_sleep 10 = .ok (.aload_n 0, 1) := by decide +kernel
theorem dX12_sleep_11 : decode cX12_sleep 11 = .ok (.getfield 9, 3) := by decide +kernel
theorem dX12_sleep_14 : decode cX12_sleep 14 = .ok (.iload_n 1, 1) := by decide +kernel
theorem dX12_sleep_15 : decode cX12_sleep 15 = .ok (.iconst 1, 1) := by decide +kernel
theorem dX12_sleep_16 : decode cX12_sleep 16 = .ok (.invokestatic 68, 3) := by decide +kernel
theorem dX12_sleep_19 : decode cX12_sleep 19 = .ok (.iaload, 1) := by decide +kernel
theorem dX12_sleep_20 : decode cX12_sleep 20 = .ok (.isub, 1) := by decide +kernel
theorem dX12_sleep_21 : decode cX12_sleep 21 = .ok (.bipush 24, 2) := by decide +kernel
theorem dX12_sleep_23 : decode cX12_sleep 23 = .ok (.iadd, 1) := by decide +kernel
theorem dX12_sleep_24 : decode cX12_sleep 24 = .ok (.bipush 24, 2) := by decide +kernel
theorem dX12_sleep_26 : decode cX12_sleep 26 = .ok (.irem, 1) := by decide +kernel
theorem dX12_sleep_27 : decode cX12_sleep 27 = .ok (.ireturn, 1) := by decide +kernel
theorem k_X12_sleep : cardV yX12_sleep (Cond.code yX12_sleep cX12_sleep 2 (some .int)) 1 := ⟨⟨qi_X12_sleep, qv_X12_sleep⟩, qc_X12_sleep, qn_X12, by decide +kernel, by decide +kernel, by decide +kernel⟩
set_option maxHeartbeats 4000000 in
set_option maxRecDepth 100000 in
theorem c_X12_sleep (l : Launch) (D : va_G) (g : Nat → ClassId) (q_this q_s q_before q_saved q_past q_steps q_goes q_line q_text q_orders : Nat) (p1 : Int32) (f_isSaved : Int32) (f_pastMany : Int32) (f_thrown : Int32) (f_reason : Int32) (f_detail : Int32) (f_isRefused : Int32) (f_goesMany : Int32) (f_roundSteps : Int32) (f_lineMany : Int32) (f_length : Int32) (f_at : Int32) (f_isWrong : Int32) (f_errorAt : Int32) (f_orderMany : Int32) (a_s : Nat → Int32) (o : Int32) (h : F_X12_sleep p1 a_s = some o) : MR l yX12_sleep (Cond.code yX12_sleep cX12_sleep 2 (some .int)) { frames := 1, cells := 0, slots := 0, locals := 21 } D g [.ref q_this, .int p1] [(q_this, .inr (12, [.ref q_s, .ref q_before, .ref q_saved, .int f_isSaved, .ref q_past, .int f_pastMany, .int f_thrown, .int f_reason, .int f_detail, .int f_isRefused, .ref q_steps, .ref q_goes, .int f_goesMany, .int f_roundSteps, .ref q_line, .int f_lineMany, .ref q_text, .int f_length, .int f_at, .int f_isWrong, .int f_errorAt, .ref q_orders, .int f_orderMany])), (q_s, .inl (g 0, 147, .inl a_s))] (some (.int o)) := by
  refine z_rd_start (by decide) (Nat.le_of_ble_eq_true rfl) ?_
  intro p e s m args below meth c Q X hr hQ
  refine z_lv (lv' := [(0, .ref q_this), (1, .int p1)]) rfl ?_
  refine z_aload_n X 0 dX12_sleep_0 rfl rfl ?_
  refine z_get (q0 := 0) (k := 0) (ci := 12) X IR_P iw_X12 rfl qf_X12_X12_s (by decide) dX12_sleep_1 rfl rfl ?_
  refine z_iload_n X 1 dX12_sleep_4 rfl rfl ?_
  refine z_iconst X (2 : Int32) dX12_sleep_5 (by decide) ?_
  obtain ⟨o1, e2, h⟩ := bnd_p h
  refine z_rdS (rest := [.ref q_s]) X IR_P k_X12_at (c_X12_at l D g p1 (2 : Int32) o1 e2) ql_X12_X12_at dX12_sleep_6 [] rfl rfl rfl ⟨Nat.le_of_ble_eq_true rfl, Nat.le_of_ble_eq_true rfl, rfl, rfl, Nat.le_of_ble_eq_true rfl, Nat.le_of_ble_eq_true rfl⟩ (Nat.le_of_ble_eq_true rfl) ?_
  refine z_iald (q0 := 1) X IR_P dX12_sleep_9 rfl h (fun h => ?_)
  refine z_aload_n X 0 dX12_sleep_10 rfl rfl ?_
  refine z_get (q0 := 0) (k := 0) (ci := 12) X IR_P iw_X12 rfl qf_X12_X12_s (by decide) dX12_sleep_11 rfl rfl ?_
  refine z_iload_n X 1 dX12_sleep_14 rfl rfl ?_
  refine z_iconst X (1 : Int32) dX12_sleep_15 (by decide) ?_
  obtain ⟨o3, e4, h⟩ := bnd_p h
  refine z_rdS (rest := [.ref q_s, .int (a_s o1.toNatClampNeg)]) X IR_P k_X12_at (c_X12_at l D g p1 (1 : Int32) o3 e4) ql_X12_X12_at dX12_sleep_16 [] rfl rfl rfl ⟨Nat.le_of_ble_eq_true rfl, Nat.le_of_ble_eq_true rfl, rfl, rfl, Nat.le_of_ble_eq_true rfl, Nat.le_of_ble_eq_true rfl⟩ (Nat.le_of_ble_eq_true rfl) ?_
  refine z_iald (q0 := 1) X IR_P dX12_sleep_19 rfl h (fun h => ?_)
  refine z_isub X dX12_sleep_20 ?_
  refine z_bipush X (24 : Int32) dX12_sleep_21 (by decide) ?_
  refine z_iadd X dX12_sleep_23 ?_
  refine z_bipush X (24 : Int32) dX12_sleep_24 (by decide) ?_
  refine z_irem X dX12_sleep_26 (by decide) ?_
  exact z_iretR X hQ hr dX12_sleep_27 h

def F_X12_sleeps (p1 : Int32) (p2 : Int32) (a_s : Nat → Int32) : Option (Int32) :=
  bnd (F_X12_at p1 (1 : Int32)) (fun o1 => grd (inb o1 147) (bnd (F_X12_sleep p1 a_s) (fun o3 => brn (o3 ≤ (((p2 - (a_s o1.toNatClampNeg)) + (24 : Int32)) - ((p2 - (a_s o1.toNatClampNeg)) + (24 : Int32)) / (24 : Int32) * (24 : Int32))) (some ((0 : Int32))) (some ((1 : Int32))))))
theorem dX12_sleeps_0 : decode cX12_sleeps 0 = .ok (.iload_n 2, 1) := by decide +kernel
theorem dX12_sleeps_1 : decode cX12_sleeps 1 = .ok (.aload_n 0, 1) := by decide +kernel
theorem dX12_sleeps_2 : decode cX12_sleeps 2 = .ok (.getfield 9, 3) := by decide +kernel
theorem dX12_sleeps_5 : decode cX12_sleeps 5 = .ok (.iload_n 1, 1) := by decide +kernel
theorem dX12_sleeps_6 : decode cX12_sleeps 6 = .ok (.iconst 1, 1) := by decide +kernel
theorem dX12_sleeps_7 : decode cX12_sleeps 7 = .ok (.invokestatic 68, 3) := by decide +kernel
theorem dX12_sleeps_10 : decode cX12_sleeps 10 = .ok (.iaload, 1) := by decide +kernel
theorem dX12_sleeps_11 : decode cX12_sleeps 11 = .ok (.isub, 1) := by decide +kernel
theorem dX12_sleeps_12 : decode cX12_sleeps 12 = .ok (.bipush 24, 2) := by decide +kernel
theorem dX12_sleeps_14 : decode cX12_sleeps 14 = .ok (.iadd, 1) := by decide +kernel
theorem dX12_sleeps_15 : decode cX12_sleeps 15 = .ok (.bipush 24, 2) := by decide +kernel
theorem dX12_sleeps_17 : decode cX12_sleeps 17 = .ok (.irem, 1) := by decide +kernel
theorem dX12_sleeps_18 : decode cX12_sleeps 18 = .ok (.aload_n 0, 1) := by decide +kernel
theorem dX12_sleeps_19 : decode cX12_sleeps 19 = .ok (.iload_n 1, 1) := by decide +kernel
theorem dX12_sleeps_20 : decode cX12_sleeps 20 = .ok (.invokevirtual 131, 3) := by decide +kernel
theorem dX12_sleeps_23 : decode cX12_sleeps 23 = .ok (.if_icmp .ge 7, 3) := by decide +kernel
theorem dX12_sleeps_26 : decode cX12_sleeps 26 = .ok (.iconst 1, 1) := by decide +kernel
theorem dX12_sleeps_27 : decode cX12_sleeps 27 = .ok (.goto 4, 3) := by decide +kernel
theorem dX12_sleeps_30 : decode cX12_sleeps 30 = .ok (.iconst 0, 1) := by decide +kernel
theorem dX12_sleeps_31 : decode cX12_sleeps 31 = .ok (.ireturn, 1) := by decide +kernel
theorem k_X12_sleeps : cardV yX12_sleeps (Cond.code yX12_sleeps cX12_sleeps 3 (some .boolean)) 2 := ⟨⟨qi_X12_sleeps, qv_X12_sleeps⟩, qc_X12_sleeps, qn_X12, by decide +kernel, by decide +kernel, by decide +kernel⟩
set_option maxHeartbeats 4000000 in
set_option maxRecDepth 100000 in
theorem c_X12_sleeps (l : Launch) (D : va_G) (g : Nat → ClassId) (q_this q_s q_before q_saved q_past q_steps q_goes q_line q_text q_orders : Nat) (p1 p2 : Int32) (f_isSaved : Int32) (f_pastMany : Int32) (f_thrown : Int32) (f_reason : Int32) (f_detail : Int32) (f_isRefused : Int32) (f_goesMany : Int32) (f_roundSteps : Int32) (f_lineMany : Int32) (f_length : Int32) (f_at : Int32) (f_isWrong : Int32) (f_errorAt : Int32) (f_orderMany : Int32) (a_s : Nat → Int32) (o : Int32) (h : F_X12_sleeps p1 p2 a_s = some o) : MR l yX12_sleeps (Cond.code yX12_sleeps cX12_sleeps 3 (some .boolean)) { frames := 2, cells := 0, slots := 0, locals := 42 } D g [.ref q_this, .int p1, .int p2] [(q_this, .inr (12, [.ref q_s, .ref q_before, .ref q_saved, .int f_isSaved, .ref q_past, .int f_pastMany, .int f_thrown, .int f_reason, .int f_detail, .int f_isRefused, .ref q_steps, .ref q_goes, .int f_goesMany, .int f_roundSteps, .ref q_line, .int f_lineMany, .ref q_text, .int f_length, .int f_at, .int f_isWrong, .int f_errorAt, .ref q_orders, .int f_orderMany])), (q_s, .inl (g 0, 147, .inl a_s))] (some (.int o)) := by
  refine z_rd_start (by decide) (Nat.le_of_ble_eq_true rfl) ?_
  intro p e s m args below meth c Q X hr hQ
  refine z_lv (lv' := [(0, .ref q_this), (1, .int p1), (2, .int p2)]) rfl ?_
  refine z_iload_n X 2 dX12_sleeps_0 rfl rfl ?_
  refine z_aload_n X 0 dX12_sleeps_1 rfl rfl ?_
  refine z_get (q0 := 0) (k := 0) (ci := 12) X IR_P iw_X12 rfl qf_X12_X12_s (by decide) dX12_sleeps_2 rfl rfl ?_
  refine z_iload_n X 1 dX12_sleeps_5 rfl rfl ?_
  refine z_iconst X (1 : Int32) dX12_sleeps_6 (by decide) ?_
  obtain ⟨o1, e2, h⟩ := bnd_p h
  refine z_rdS (rest := [.ref q_s, .int p2]) X IR_P k_X12_at (c_X12_at l D g p1 (1 : Int32) o1 e2) ql_X12_X12_at dX12_sleeps_7 [] rfl rfl rfl ⟨Nat.le_of_ble_eq_true rfl, Nat.le_of_ble_eq_true rfl, rfl, rfl, Nat.le_of_ble_eq_true rfl, Nat.le_of_ble_eq_true rfl⟩ (Nat.le_of_ble_eq_true rfl) ?_
  refine z_iald (q0 := 1) X IR_P dX12_sleeps_10 rfl h (fun h => ?_)
  refine z_isub X dX12_sleeps_11 ?_
  refine z_bipush X (24 : Int32) dX12_sleeps_12 (by decide) ?_
  refine z_iadd X dX12_sleeps_14 ?_
  refine z_bipush X (24 : Int32) dX12_sleeps_15 (by decide) ?_
  refine z_irem X dX12_sleeps_17 (by decide) ?_
  refine z_aload_n X 0 dX12_sleeps_18 rfl rfl ?_
  refine z_iload_n X 1 dX12_sleeps_19 rfl rfl ?_
  obtain ⟨o3, e4, h⟩ := bnd_p h
  refine z_rdV (rest := [.int (((p2 - (a_s o1.toNatClampNeg)) + (24 : Int32)) - ((p2 - (a_s o1.toNatClampNeg)) + (24 : Int32)) / (24 : Int32) * (24 : Int32))]) (q0 := 0) (ci := 12) X IR_P k_X12_sleep (c_X12_sleep l D g q_this q_s q_before q_saved q_past q_steps q_goes q_line q_text q_orders p1 f_isSaved f_pastMany f_thrown f_reason f_detail f_isRefused f_goesMany f_roundSteps f_lineMany f_length f_at f_isWrong f_errorAt f_orderMany a_s o3 e4) ql_X12_X12_sleep dX12_sleeps_20 [0, 1] rfl rfl rfl rfl rfl rfl ⟨Nat.le_of_ble_eq_true rfl, Nat.le_of_ble_eq_true rfl, rfl, rfl, Nat.le_of_ble_eq_true rfl, Nat.le_of_ble_eq_true rfl⟩ (Nat.le_of_ble_eq_true rfl) ?_
  refine z_icmp_ge X 30 dX12_sleeps_23 (by decide) h (fun _ h => ?_) (fun _ h => ?_)
  · refine z_iconst X (0 : Int32) dX12_sleeps_30 (by decide) ?_
    exact z_zretR X hQ hr dX12_sleeps_31 rfl h
  · refine z_iconst X (1 : Int32) dX12_sleeps_26 (by decide) ?_
    refine z_goto X 31 dX12_sleeps_27 (by decide) ?_
    exact z_zretR X hQ hr dX12_sleeps_31 rfl h

def J_X12_houseOf_28 (p1 : Int32) (p2 : Int32) (a_s : Nat → Int32) (t0 : Int32) (f_thrown : Int32) : Option (Int32 × Int32) :=
  brn (t0 ≤ 0) (brn (p2 = (5 : Int32)) (bnd (F_X12_cellOf p1 a_s) (fun o4 => bnd (F_X12_hallOn o4 a_s) (fun o6 => some (o6, t0)))) (brn (p2 = (6 : Int32)) (grd (inb (0 : Int32) 147) (bnd (F_X12_sleeps p1 (a_s (0 : Int32).toNatClampNeg) a_s) (fun o9 => brn (o9 = 0) (some ((0 : Int32), t0)) (some ((1 : Int32), t0))))) (brn (p2 = (7 : Int32)) (bnd (F_X12_sleep p1 a_s) (fun o12 => some (o12, t0))) (bnd (F_X12_at p1 p2) (fun o14 => grd (inb o14 147) (some (a_s o14.toNatClampNeg, t0))))))) (some ((0 : Int32), t0))

def F_X12_houseOf (p1 : Int32) (p2 : Int32) (a_s : Nat → Int32) (f_thrown : Int32) : Option (Int32 × Int32) :=
  bnd (F_X12_isHouse p1 a_s) (fun o1 => brn (o1 = 0) (J_X12_houseOf_28 p1 p2 a_s (1 : Int32) f_thrown) (bnd (F_X12_in p2 (0 : Int32) (7 : Int32)) (fun o16 => brn (o16 = 0) (J_X12_houseOf_28 p1 p2 a_s (2 : Int32) f_thrown) (J_X12_houseOf_28 p1 p2 a_s (0 : Int32) f_thrown))))
theorem dX12_houseOf_0 : decode cX12_houseOf 0 = .ok (.aload_n 0, 1) := by decide +kernel
theorem dX12_houseOf_1 : decode cX12_houseOf 1 = .ok (.aload_n 0, 1) := by decide +kernel
theorem dX12_houseOf_2 : decode cX12_houseOf 2 = .ok (.iload_n 1, 1) := by decide +kernel
theorem dX12_houseOf_3 : decode cX12_houseOf 3 = .ok (.invokevirtual 110, 3) := by decide +kernel
theorem dX12_houseOf_6 : decode cX12_houseOf 6 = .ok (.ifCond .ne 7, 3) := by decide +kernel
theorem dX12_houseOf_9 : decode cX12_houseOf 9 = .ok (.iconst 1, 1) := by decide +kernel
theorem dX12_houseOf_10 : decode cX12_houseOf 10 = .ok (.goto 18, 3) := by decide +kernel
theorem dX12_houseOf_13 : decode cX12_houseOf 13 = .ok (.iload_n 2, 1) := by decide +kernel
theorem dX12_houseOf_14 : decode cX12_houseOf 14 = .ok (.iconst 0, 1) := by decide +kernel
theorem dX12_houseOf_15 : decode cX12_houseOf 15 = .ok (.bipush 7, 2) := by decide +kernel
theorem dX12_houseOf_17 : decode cX12_houseOf 17 = .ok (.invokestatic 64, 3) := by decide +kernel
theorem dX12_houseOf_20 : decode cX12_houseOf 20 = .ok (.ifCond .ne 7, 3) := by decide +kernel
theorem dX12_houseOf_23 : decode cX12_houseOf 23 = .ok (.iconst 2, 1) := by decide +kernel
theorem dX12_houseOf_24 : decode cX12_houseOf 24 = .ok (.goto 4, 3) := by decide +kernel
theorem dX12_houseOf_27 : decode cX12_houseOf 27 = .ok (.iconst 0, 1) := by decide +kernel
theorem dX12_houseOf_28 : decode cX12_houseOf 28 = .ok (.putfield 42, 3) := by decide +kernel
theorem dX12_houseOf_31 : decode cX12_houseOf 31 = .ok (.aload_n 0, 1) := by decide +kernel
theorem dX12_houseOf_32 : decode cX12_houseOf 32 = .ok (.getfield 42, 3) := by decide +kernel
theorem dX12_houseOf_35 : decode cX12_houseOf 35 = .ok (.ifCond .le 5, 3) := by decide +kernel
theorem dX12_houseOf_38 : decode cX12_houseOf 38 = .ok (.iconst 0, 1) := by decide +kernel
theorem dX12_houseOf_39 : decode cX12_houseOf 39 = .ok (.ireturn, 1) := by decide +kernel
theorem dX12_houseOf_40 : decode cX12_houseOf 40 = .ok (.iload_n 2, 1) := by decide +kernel
theorem dX12_houseOf_41 : decode cX12_houseOf 41 = .ok (.tableswitch 63 5 7 #[27, 37, 57], 27) := by decide +kernel
theorem dX12_houseOf_68 : decode cX12_houseOf 68 = .ok (.aload_n 0, 1) := by decide +kernel
theorem dX12_houseOf_69 : decode cX12_houseOf 69 = .ok (.aload_n 0, 1) := by decide +kernel
theorem dX12_houseOf_70 : decode cX12_houseOf 70 = .ok (.iload_n 1, 1) := by decide +kernel
theorem dX12_houseOf_71 : decode cX12_houseOf 71 = .ok (.invokevirtual 72, 3) := by decide +kernel
theorem dX12_houseOf_74 : decode cX12_houseOf 74 = .ok (.invokevirtual 119, 3) := by decide +kernel
theorem dX12_houseOf_77 : decode cX12_houseOf 77 = .ok (.ireturn, 1) := by decide +kernel
theorem dX12_houseOf_78 : decode cX12_houseOf 78 = .ok (.aload_n 0, 1) := by decide +kernel
theorem dX12_houseOf_79 : decode cX12_houseOf 79 = .ok (.iload_n 1, 1) := by decide +kernel
theorem dX12_houseOf_80 : decode cX12_houseOf 80 = .ok (.aload_n 0, 1) := by decide +kernel
theorem dX12_houseOf_81 : decode cX12_houseOf 81 = .ok (.getfield 9, 3) := by decide +kernel
theorem dX12_houseOf_84 : decode cX12_houseOf 84 = .ok (.iconst 0, 1) := by decide +kernel
theorem dX12_houseOf_85 : decode cX12_houseOf 85 = .ok (.iaload, 1) := by decide +kernel
theorem dX12_houseOf_86 : decode cX12_houseOf 86 = .ok (.invokevirtual 134, 3) := by decide +kernel
theorem dX12_houseOf_89 : decode cX12_houseOf 89 = .ok (.ifCond .eq 7, 3) := by decide +kernel
theorem dX12_houseOf_92 : decode cX12_houseOf 92 = .ok (.iconst 1, 1) := by decide +kernel
theorem dX12_houseOf_93 : decode cX12_houseOf 93 = .ok (.goto 4, 3) := by decide +kernel
theorem dX12_houseOf_96 : decode cX12_houseOf 96 = .ok (.iconst 0, 1) := by decide +kernel
theorem dX12_houseOf_97 : decode cX12_houseOf 97 = .ok (.ireturn, 1) := by decide +kernel
theorem dX12_houseOf_98 : decode cX12_houseOf 98 = .ok (.aload_n 0, 1) := by decide +kernel
theorem dX12_houseOf_99 : decode cX12_houseOf 99 = .ok (.iload_n 1, 1) := by decide +kernel
theorem dX12_houseOf_100 : decode cX12_houseOf 100 = .ok (.invokevirtual 131, 3) := by decide +kernel
theorem dX12_houseOf_103 : decode cX12_houseOf 103 = .ok (.ireturn, 1) := by decide +kernel
theorem dX12_houseOf_104 : decode cX12_houseOf 104 = .ok (.aload_n 0, 1) := by decide +kernel
theorem dX12_houseOf_105 : decode cX12_houseOf 105 = .ok (.getfield 9, 3) := by decide +kernel
theorem dX12_houseOf_108 : decode cX12_houseOf 108 = .ok (.iload_n 1, 1) := by decide +kernel
theorem dX12_houseOf_109 : decode cX12_houseOf 109 = .ok (.iload_n 2, 1) := by decide +kernel
theorem dX12_houseOf_110 : decode cX12_houseOf 110 = .ok (.invokestatic 68, 3) := by decide +kernel
theorem dX12_houseOf_113 : decode cX12_houseOf 113 = .ok (.iaload, 1) := by decide +kernel
theorem dX12_houseOf_114 : decode cX12_houseOf 114 = .ok (.ireturn, 1) := by decide +kernel
theorem k_X12_houseOf : cardV yX12_houseOf (Cond.code yX12_houseOf cX12_houseOf 3 (some .int)) 2 := ⟨⟨qi_X12_houseOf, qv_X12_houseOf⟩, qc_X12_houseOf, qn_X12, by decide +kernel, by decide +kernel, by decide +kernel⟩
set_option maxHeartbeats 4000000 in
set_option maxRecDepth 100000 in
theorem c_X12_houseOf (l : Launch) (D : va_G) (g : Nat → ClassId) (q_this q_s q_before q_saved q_past q_steps q_goes q_line q_text q_orders : Nat) (p1 p2 : Int32) (f_isSaved : Int32) (f_pastMany : Int32) (f_thrown : Int32) (f_reason : Int32) (f_detail : Int32) (f_isRefused : Int32) (f_goesMany : Int32) (f_roundSteps : Int32) (f_lineMany : Int32) (f_length : Int32) (f_at : Int32) (f_isWrong : Int32) (f_errorAt : Int32) (f_orderMany : Int32) (a_s : Nat → Int32) (o : Int32 × Int32) (h : F_X12_houseOf p1 p2 a_s f_thrown = some o) : MW l yX12_houseOf (Cond.code yX12_houseOf cX12_houseOf 3 (some .int)) { frames := 3, cells := 0, slots := 0, locals := 64 } D g [.ref q_this, .int p1, .int p2] [(q_this, .inr (12, [.ref q_s, .ref q_before, .ref q_saved, .int f_isSaved, .ref q_past, .int f_pastMany, .int f_thrown, .int f_reason, .int f_detail, .int f_isRefused, .ref q_steps, .ref q_goes, .int f_goesMany, .int f_roundSteps, .ref q_line, .int f_lineMany, .ref q_text, .int f_length, .int f_at, .int f_isWrong, .int f_errorAt, .ref q_orders, .int f_orderMany])), (q_s, .inl (g 0, 147, .inl a_s))] (some (.int o.1)) [(q_this, .inr (12, [.ref q_s, .ref q_before, .ref q_saved, .int f_isSaved, .ref q_past, .int f_pastMany, .int o.2, .int f_reason, .int f_detail, .int f_isRefused, .ref q_steps, .ref q_goes, .int f_goesMany, .int f_roundSteps, .ref q_line, .int f_lineMany, .ref q_text, .int f_length, .int f_at, .int f_isWrong, .int f_errorAt, .ref q_orders, .int f_orderMany])), (q_s, .inl (g 0, 147, .inl a_s))] := by
  refine z_wr_start (by decide) (Nat.le_of_ble_eq_true rfl) ?_
  intro p e s m args below meth c Q A X hr hQ hA
  refine z_lv (lv' := [(0, .ref q_this), (1, .int p1), (2, .int p2)]) rfl ?_
  have H28 : ∀ (t0 : Int32) (f_thrown : Int32), J_X12_houseOf_28 p1 p2 a_s t0 f_thrown = some o → Z p l e { frames := 3, cells := 0, slots := 0, locals := 64 } s m args below meth c Q 3 0 0 (IW D A s [(q_this, .inr (12, [.ref q_s, .ref q_before, .ref q_saved, .int f_isSaved, .ref q_past, .int f_pastMany, .int f_thrown, .int f_reason, .int f_detail, .int f_isRefused, .ref q_steps, .ref q_goes, .int f_goesMany, .int f_roundSteps, .ref q_line, .int f_lineMany, .ref q_text, .int f_length, .int f_at, .int f_isWrong, .int f_errorAt, .ref q_orders, .int f_orderMany])), (q_s, .inl (g 0, 147, .inl a_s))]) 28 [(0, .ref q_this), (1, .int p1), (2, .int p2)] [.int t0, .ref q_this] := by
    intro t0 f_thrown h
    refine z_put (q0 := 0) (k := 6) (ci := 12) (ws' := [(q_this, .inr (12, [.ref q_s, .ref q_before, .ref q_saved, .int f_isSaved, .ref q_past, .int f_pastMany, .int t0, .int f_reason, .int f_detail, .int f_isRefused, .ref q_steps, .ref q_goes, .int f_goesMany, .int f_roundSteps, .ref q_line, .int f_lineMany, .ref q_text, .int f_length, .int f_at, .int f_isWrong, .int f_errorAt, .ref q_orders, .int f_orderMany])), (q_s, .inl (g 0, 147, .inl a_s))]) X iw_X12 tyX12_ok nmX12 rfl qf_X12_X12_thrown (by decide) rfl rfl dX12_houseOf_28 rfl rfl rfl (Nat.le_of_ble_eq_true rfl) rfl ?_
    refine z_aload_n X 0 dX12_houseOf_31 rfl rfl ?_
    refine z_get (q0 := 0) (k := 6) (ci := 12) X IW_P iw_X12 rfl qf_X12_X12_thrown (by decide) dX12_houseOf_32 rfl rfl ?_
    refine z_if_le X 40 dX12_houseOf_35 (by decide) h (fun _ h => ?_) (fun _ h => ?_)
    · refine z_iload_n X 2 dX12_houseOf_40 rfl rfl ?_
      by_cases n3 : p2 = (5 : Int32)
      · have h := brn_t h n3
        refine z_tin (off := 27) 68 X dX12_houseOf_41 (sw_eq (k := 5) n3 (by decide)) (by decide) (by decide) (by decide) (by decide) ?_
        refine z_aload_n X 0 dX12_houseOf_68 rfl rfl ?_
        refine z_aload_n X 0 dX12_houseOf_69 rfl rfl ?_
        refine z_iload_n X 1 dX12_houseOf_70 rfl rfl ?_
        obtain ⟨o4, e5, h⟩ := bnd_p h
        refine z_rdV (rest := [.ref q_this]) (q0 := 0) (ci := 12) X IW_P k_X12_cellOf (c_X12_cellOf l D g q_this q_s q_before q_saved q_past q_steps q_goes q_line q_text q_orders p1 f_isSaved f_pastMany t0 f_reason f_detail f_isRefused f_goesMany f_roundSteps f_lineMany f_length f_at f_isWrong f_errorAt f_orderMany a_s o4 e5) ql_X12_X12_cellOf dX12_houseOf_71 [0, 1] rfl rfl rfl rfl rfl rfl ⟨Nat.le_of_ble_eq_true rfl, Nat.le_of_ble_eq_true rfl, rfl, rfl, Nat.le_of_ble_eq_true rfl, Nat.le_of_ble_eq_true rfl⟩ (Nat.le_of_ble_eq_true rfl) ?_
        obtain ⟨o6, e7, h⟩ := bnd_p h
        refine z_rdV (rest := []) (q0 := 0) (ci := 12) X IW_P k_X12_hallOn (c_X12_hallOn l D g q_this q_s q_before q_saved q_past q_steps q_goes q_line q_text q_orders o4 f_isSaved f_pastMany t0 f_reason f_detail f_isRefused f_goesMany f_roundSteps f_lineMany f_length f_at f_isWrong f_errorAt f_orderMany a_s o6 e7) ql_X12_X12_hallOn dX12_houseOf_74 [0, 1] rfl rfl rfl rfl rfl rfl ⟨Nat.le_of_ble_eq_true rfl, Nat.le_of_ble_eq_true rfl, rfl, rfl, Nat.le_of_ble_eq_true rfl, Nat.le_of_ble_eq_true rfl⟩ (Nat.le_of_ble_eq_true rfl) ?_
        cases h
        exact z_iretW X hQ hA hr dX12_houseOf_77
      have h := brn_f h n3
      by_cases n8 : p2 = (6 : Int32)
      · have h := brn_t h n8
        refine z_tin (off := 37) 78 X dX12_houseOf_41 (sw_eq (k := 6) n8 (by decide)) (by decide) (by decide) (by decide) (by decide) ?_
        refine z_aload_n X 0 dX12_houseOf_78 rfl rfl ?_
        refine z_iload_n X 1 dX12_houseOf_79 rfl rfl ?_
        refine z_aload_n X 0 dX12_houseOf_80 rfl rfl ?_
        refine z_get (q0 := 0) (k := 0) (ci := 12) X IW_P iw_X12 rfl qf_X12_X12_s (by decide) dX12_houseOf_81 rfl rfl ?_
        refine z_iconst X (0 : Int32) dX12_houseOf_84 (by decide) ?_
        refine z_iald (q0 := 1) X IW_P dX12_houseOf_85 rfl h (fun h => ?_)
        obtain ⟨o9, e10, h⟩ := bnd_p h
        refine z_rdV (rest := []) (q0 := 0) (ci := 12) X IW_P k_X12_sleeps (c_X12_sleeps l D g q_this q_s q_before q_saved q_past q_steps q_goes q_line q_text q_orders p1 (a_s (0 : Int32).toNatClampNeg) f_isSaved f_pastMany t0 f_reason f_detail f_isRefused f_goesMany f_roundSteps f_lineMany f_length f_at f_isWrong f_errorAt f_orderMany a_s o9 e10) ql_X12_X12_sleeps dX12_houseOf_86 [0, 1] rfl rfl rfl rfl rfl rfl ⟨Nat.le_of_ble_eq_true rfl, Nat.le_of_ble_eq_true rfl, rfl, rfl, Nat.le_of_ble_eq_true rfl, Nat.le_of_ble_eq_true rfl⟩ (Nat.le_of_ble_eq_true rfl) ?_
        refine z_if_eq X 96 dX12_houseOf_89 (by decide) h (fun _ h => ?_) (fun _ h => ?_)
        · refine z_iconst X (0 : Int32) dX12_houseOf_96 (by decide) ?_
          cases h
          exact z_iretW X hQ hA hr dX12_houseOf_97
        · refine z_iconst X (1 : Int32) dX12_houseOf_92 (by decide) ?_
          refine z_goto X 97 dX12_houseOf_93 (by decide) ?_
          cases h
          exact z_iretW X hQ hA hr dX12_houseOf_97
      have h := brn_f h n8
      by_cases n11 : p2 = (7 : Int32)
      · have h := brn_t h n11
        refine z_tin (off := 57) 98 X dX12_houseOf_41 (sw_eq (k := 7) n11 (by decide)) (by decide) (by decide) (by decide) (by decide) ?_
        refine z_aload_n X 0 dX12_houseOf_98 rfl rfl ?_
        refine z_iload_n X 1 dX12_houseOf_99 rfl rfl ?_
        obtain ⟨o12, e13, h⟩ := bnd_p h
        refine z_rdV (rest := []) (q0 := 0) (ci := 12) X IW_P k_X12_sleep (c_X12_sleep l D g q_this q_s q_before q_saved q_past q_steps q_goes q_line q_text q_orders p1 f_isSaved f_pastMany t0 f_reason f_detail f_isRefused f_goesMany f_roundSteps f_lineMany f_length f_at f_isWrong f_errorAt f_orderMany a_s o12 e13) ql_X12_X12_sleep dX12_houseOf_100 [0, 1] rfl rfl rfl rfl rfl rfl ⟨Nat.le_of_ble_eq_true rfl, Nat.le_of_ble_eq_true rfl, rfl, rfl, Nat.le_of_ble_eq_true rfl, Nat.le_of_ble_eq_true rfl⟩ (Nat.le_of_ble_eq_true rfl) ?_
        cases h
        exact z_iretW X hQ hA hr dX12_houseOf_103
      have h := brn_f h n11
      refine z_tdef 104 [5, 6, 7] X dX12_houseOf_41 (by decide) (by decide) (List.forall_mem_cons.mpr ⟨sw_ne n3 (by decide), List.forall_mem_cons.mpr ⟨sw_ne n8 (by decide), List.forall_mem_cons.mpr ⟨sw_ne n11 (by decide), fun _ hk => absurd hk List.not_mem_nil⟩⟩⟩) (by decide) ?_
      refine z_aload_n X 0 dX12_houseOf_104 rfl rfl ?_
      refine z_get (q0 := 0) (k := 0) (ci := 12) X IW_P iw_X12 rfl qf_X12_X12_s (by decide) dX12_houseOf_105 rfl rfl ?_
      refine z_iload_n X 1 dX12_houseOf_108 rfl rfl ?_
      refine z_iload_n X 2 dX12_houseOf_109 rfl rfl ?_
      obtain ⟨o14, e15, h⟩ := bnd_p h
      refine z_rdS (rest := [.ref q_s]) X IW_P k_X12_at (c_X12_at l D g p1 p2 o14 e15) ql_X12_X12_at dX12_houseOf_110 [] rfl rfl rfl ⟨Nat.le_of_ble_eq_true rfl, Nat.le_of_ble_eq_true rfl, rfl, rfl, Nat.le_of_ble_eq_true rfl, Nat.le_of_ble_eq_true rfl⟩ (Nat.le_of_ble_eq_true rfl) ?_
      refine z_iald (q0 := 1) X IW_P dX12_houseOf_113 rfl h (fun h => ?_)
      cases h
      exact z_iretW X hQ hA hr dX12_houseOf_114
    · refine z_iconst X (0 : Int32) dX12_houseOf_38 (by decide) ?_
      cases h
      exact z_iretW X hQ hA hr dX12_houseOf_39
  refine z_aload_n X 0 dX12_houseOf_0 rfl rfl ?_
  refine z_aload_n X 0 dX12_houseOf_1 rfl rfl ?_
  refine z_iload_n X 1 dX12_houseOf_2 rfl rfl ?_
  obtain ⟨o1, e2, h⟩ := bnd_p h
  refine z_rdV (rest := [.ref q_this]) (q0 := 0) (ci := 12) X IW_P k_X12_isHouse (c_X12_isHouse l D g q_this q_s q_before q_saved q_past q_steps q_goes q_line q_text q_orders p1 f_isSaved f_pastMany f_thrown f_reason f_detail f_isRefused f_goesMany f_roundSteps f_lineMany f_length f_at f_isWrong f_errorAt f_orderMany a_s o1 e2) ql_X12_X12_isHouse dX12_houseOf_3 [0, 1] rfl rfl rfl rfl rfl rfl ⟨Nat.le_of_ble_eq_true rfl, Nat.le_of_ble_eq_true rfl, rfl, rfl, Nat.le_of_ble_eq_true rfl, Nat.le_of_ble_eq_true rfl⟩ (Nat.le_of_ble_eq_true rfl) ?_
  refine z_if_ne X 13 dX12_houseOf_6 (by decide) h (fun _ h => ?_) (fun _ h => ?_)
  · refine z_iconst X (1 : Int32) dX12_houseOf_9 (by decide) ?_
    refine z_goto X 28 dX12_houseOf_10 (by decide) ?_
    exact H28 (1 : Int32) f_thrown h
  · refine z_iload_n X 2 dX12_houseOf_13 rfl rfl ?_
    refine z_iconst X (0 : Int32) dX12_houseOf_14 (by decide) ?_
    refine z_bipush X (7 : Int32) dX12_houseOf_15 (by decide) ?_
    obtain ⟨o16, e17, h⟩ := bnd_p h
    refine z_rdS (rest := [.ref q_this]) X IW_P k_X12_in (c_X12_in l D g p2 (0 : Int32) (7 : Int32) o16 e17) ql_X12_X12_in dX12_houseOf_17 [] rfl rfl rfl ⟨Nat.le_of_ble_eq_true rfl, Nat.le_of_ble_eq_true rfl, rfl, rfl, Nat.le_of_ble_eq_true rfl, Nat.le_of_ble_eq_true rfl⟩ (Nat.le_of_ble_eq_true rfl) ?_
    refine z_if_ne X 27 dX12_houseOf_20 (by decide) h (fun _ h => ?_) (fun _ h => ?_)
    · refine z_iconst X (2 : Int32) dX12_houseOf_23 (by decide) ?_
      refine z_goto X 28 dX12_houseOf_24 (by decide) ?_
      exact H28 (2 : Int32) f_thrown h
    · refine z_iconst X (0 : Int32) dX12_houseOf_27 (by decide) ?_
      exact H28 (0 : Int32) f_thrown h

def J_X12_sleepers_29 (p1 : Int32) (a_s : Nat → Int32) (r4 : Int32 → Int32 → Option (Int32)) (t0 : Int32) (t1 : Int32) (x3 : Int32) : Option (Int32) :=
  r4 (t1 + t0) (x3 + 1)

def L_X12_sleepers_4 (p1 : Int32) (a_s : Nat → Int32) : Nat → Int32 → Int32 → Option (Int32)
  | 0, _, _ => none
  | _n + 1, x2, x3 =>
    grd (inb (2 : Int32) 147) (brn ((a_s (2 : Int32).toNatClampNeg) ≤ x3) (some (x2)) (bnd (F_X12_sleeps x3 p1 a_s) (fun o1 => brn (o1 = 0) (J_X12_sleepers_29 p1 a_s (L_X12_sleepers_4 p1 a_s _n) (0 : Int32) x2 x3) (J_X12_sleepers_29 p1 a_s (L_X12_sleepers_4 p1 a_s _n) (1 : Int32) x2 x3))))

def F_X12_sleepers (p1 : Int32) (a_s : Nat → Int32) : Option (Int32) :=
  L_X12_sleepers_4 p1 a_s 100 (0 : Int32) (0 : Int32)
theorem dX12_sleepers_0 : decode cX12_sleepers 0 = .ok (.iconst 0, 1) := by decide +kernel
theorem dX12_sleepers_1 : decode cX12_sleepers 1 = .ok (.istore_n 2, 1) := by decide +kernel
theorem dX12_sleepers_2 : decode cX12_sleepers 2 = .ok (.iconst 0, 1) := by decide +kernel
theorem dX12_sleepers_3 : decode cX12_sleepers 3 = .ok (.istore_n 3, 1) := by decide +kernel
theorem dX12_sleepers_4 : decode cX12_sleepers 4 = .ok (.iload_n 3, 1) := by decide +kernel
theorem dX12_sleepers_5 : decode cX12_sleepers 5 = .ok (.aload_n 0, 1) := by decide +kernel
theorem dX12_sleepers_6 : decode cX12_sleepers 6 = .ok (.getfield 9, 3) := by decide +kernel
theorem dX12_sleepers_9 : decode cX12_sleepers 9 = .ok (.iconst 2, 1) := by decide +kernel
theorem dX12_sleepers_10 : decode cX12_sleepers 10 = .ok (.iaload, 1) := by decide +kernel
theorem dX12_sleepers_11 : decode cX12_sleepers 11 = .ok (.if_icmp .ge 26, 3) := by decide +kernel
theorem dX12_sleepers_14 : decode cX12_sleepers 14 = .ok (.iload_n 2, 1) := by decide +kernel
theorem dX12_sleepers_15 : decode cX12_sleepers 15 = .ok (.aload_n 0, 1) := by decide +kernel
theorem dX12_sleepers_16 : decode cX12_sleepers 16 = .ok (.iload_n 3, 1) := by decide +kernel
theorem dX12_sleepers_17 : decode cX12_sleepers 17 = .ok (.iload_n 1, 1) := by decide +kernel
theorem dX12_sleepers_18 : decode cX12_sleepers 18 = .ok (.invokevirtual 134, 3) := by decide +kernel
theorem dX12_sleepers_21 : decode cX12_sleepers 21 = .ok (.ifCond .eq 7, 3) := by decide +kernel
theorem dX12_sleepers_24 : decode cX12_sleepers 24 = .ok (.iconst 1, 1) := by decide +kernel
theorem dX12_sleepers_25 : decode cX12_sleepers 25 = .ok (.goto 4, 3) := by decide +kernel
theorem dX12_sleepers_28 : decode cX12_sleepers 28 = .ok (.iconst 0, 1) := by decide +kernel
theorem dX12_sleepers_29 : decode cX12_sleepers 29 = .ok (.iadd, 1) := by decide +kernel
theorem dX12_sleepers_30 : decode cX12_sleepers 30 = .ok (.istore_n 2, 1) := by decide +kernel
theorem dX12_sleepers_31 : decode cX12_sleepers 31 = .ok (.iinc 3 1, 3) := by decide +kernel
theorem dX12_sleepers_34 : decode cX12_sleepers 34 = .ok (.goto (-30), 3) := by decide +kernel
theorem dX12_sleepers_37 : decode cX12_sleepers 37 = .ok (.iload_n 2, 1) := by decide +kernel
theorem dX12_sleepers_38 : decode cX12_sleepers 38 = .ok (.ireturn, 1) := by decide +kernel
theorem k_X12_sleepers : cardV yX12_sleepers (Cond.code yX12_sleepers cX12_sleepers 4 (some .int)) 1 := ⟨⟨qi_X12_sleepers, qv_X12_sleepers⟩, qc_X12_sleepers, qn_X12, by decide +kernel, by decide +kernel, by decide +kernel⟩
set_option maxHeartbeats 4000000 in
set_option maxRecDepth 100000 in
theorem c_X12_sleepers (l : Launch) (D : va_G) (g : Nat → ClassId) (q_this q_s q_before q_saved q_past q_steps q_goes q_line q_text q_orders : Nat) (p1 : Int32) (f_isSaved : Int32) (f_pastMany : Int32) (f_thrown : Int32) (f_reason : Int32) (f_detail : Int32) (f_isRefused : Int32) (f_goesMany : Int32) (f_roundSteps : Int32) (f_lineMany : Int32) (f_length : Int32) (f_at : Int32) (f_isWrong : Int32) (f_errorAt : Int32) (f_orderMany : Int32) (a_s : Nat → Int32) (o : Int32) (h : F_X12_sleepers p1 a_s = some o) : MR l yX12_sleepers (Cond.code yX12_sleepers cX12_sleepers 4 (some .int)) { frames := 3, cells := 0, slots := 0, locals := 64 } D g [.ref q_this, .int p1] [(q_this, .inr (12, [.ref q_s, .ref q_before, .ref q_saved, .int f_isSaved, .ref q_past, .int f_pastMany, .int f_thrown, .int f_reason, .int f_detail, .int f_isRefused, .ref q_steps, .ref q_goes, .int f_goesMany, .int f_roundSteps, .ref q_line, .int f_lineMany, .ref q_text, .int f_length, .int f_at, .int f_isWrong, .int f_errorAt, .ref q_orders, .int f_orderMany])), (q_s, .inl (g 0, 147, .inl a_s))] (some (.int o)) := by
  refine z_rd_start (by decide) (Nat.le_of_ble_eq_true rfl) ?_
  intro p e s m args below meth c Q X hr hQ
  refine z_lv (lv' := [(0, .ref q_this), (1, .int p1)]) rfl ?_
  have H4 : ∀ (n : Nat) (x2 : Int32) (x3 : Int32), L_X12_sleepers_4 p1 a_s  n x2 x3 = some o → Z p l e { frames := 3, cells := 0, slots := 0, locals := 64 } s m args below meth c Q 4 0 0 (IR D [(q_this, .inr (12, [.ref q_s, .ref q_before, .ref q_saved, .int f_isSaved, .ref q_past, .int f_pastMany, .int f_thrown, .int f_reason, .int f_detail, .int f_isRefused, .ref q_steps, .ref q_goes, .int f_goesMany, .int f_roundSteps, .ref q_line, .int f_lineMany, .ref q_text, .int f_length, .int f_at, .int f_isWrong, .int f_errorAt, .ref q_orders, .int f_orderMany])), (q_s, .inl (g 0, 147, .inl a_s))] s) 4 [(0, .ref q_this), (1, .int p1), (2, .int x2), (3, .int x3)] [] := by
    intro n
    induction n with
    | zero => intro x2 x3 h; cases h
    | succ n4 ih4 =>
      intro x2 x3 h
      have H29 : ∀ (t0 : Int32) (t1 : Int32) (x3 : Int32), J_X12_sleepers_29 p1 a_s (L_X12_sleepers_4 p1 a_s n4) t0 t1 x3 = some o → Z p l e { frames := 3, cells := 0, slots := 0, locals := 64 } s m args below meth c Q 4 0 0 (IR D [(q_this, .inr (12, [.ref q_s, .ref q_before, .ref q_saved, .int f_isSaved, .ref q_past, .int f_pastMany, .int f_thrown, .int f_reason, .int f_detail, .int f_isRefused, .ref q_steps, .ref q_goes, .int f_goesMany, .int f_roundSteps, .ref q_line, .int f_lineMany, .ref q_text, .int f_length, .int f_at, .int f_isWrong, .int f_errorAt, .ref q_orders, .int f_orderMany])), (q_s, .inl (g 0, 147, .inl a_s))] s) 29 [(0, .ref q_this), (1, .int p1), (3, .int x3)] [.int t0, .int t1] := by
        intro t0 t1 x3 h
        refine z_iadd X dX12_sleepers_29 ?_
        refine z_istore_n X [(2, .int (t1 + t0)), (0, .ref q_this), (1, .int p1), (3, .int x3)] dX12_sleepers_30 rfl (by decide) rfl ?_
        refine z_iinc X 3 [(3, .int (x3 + 1)), (2, .int (t1 + t0)), (0, .ref q_this), (1, .int p1)] dX12_sleepers_31 rfl rfl (by decide) rfl ?_
        refine z_goto X 4 dX12_sleepers_34 (by decide) ?_
        refine z_sub (lv' := [(0, .ref q_this), (1, .int p1), (2, .int (t1 + t0)), (3, .int (x3 + 1))]) [2, 3, 1, 0] rfl ?_
        exact ih4 (t1 + t0) (x3 + 1) h
      refine z_iload_n X 3 dX12_sleepers_4 rfl rfl ?_
      refine z_aload_n X 0 dX12_sleepers_5 rfl rfl ?_
      refine z_get (q0 := 0) (k := 0) (ci := 12) X IR_P iw_X12 rfl qf_X12_X12_s (by decide) dX12_sleepers_6 rfl rfl ?_
      refine z_iconst X (2 : Int32) dX12_sleepers_9 (by decide) ?_
      refine z_iald (q0 := 1) X IR_P dX12_sleepers_10 rfl h (fun h => ?_)
      refine z_icmp_ge X 37 dX12_sleepers_11 (by decide) h (fun _ h => ?_) (fun _ h => ?_)
      · refine z_iload_n X 2 dX12_sleepers_37 rfl rfl ?_
        exact z_iretR X hQ hr dX12_sleepers_38 h
      · refine z_iload_n X 2 dX12_sleepers_14 rfl rfl ?_
        refine z_aload_n X 0 dX12_sleepers_15 rfl rfl ?_
        refine z_iload_n X 3 dX12_sleepers_16 rfl rfl ?_
        refine z_iload_n X 1 dX12_sleepers_17 rfl rfl ?_
        obtain ⟨o1, e2, h⟩ := bnd_p h
        refine z_rdV (rest := [.int x2]) (q0 := 0) (ci := 12) X IR_P k_X12_sleeps (c_X12_sleeps l D g q_this q_s q_before q_saved q_past q_steps q_goes q_line q_text q_orders x3 p1 f_isSaved f_pastMany f_thrown f_reason f_detail f_isRefused f_goesMany f_roundSteps f_lineMany f_length f_at f_isWrong f_errorAt f_orderMany a_s o1 e2) ql_X12_X12_sleeps dX12_sleepers_18 [0, 1] rfl rfl rfl rfl rfl rfl ⟨Nat.le_of_ble_eq_true rfl, Nat.le_of_ble_eq_true rfl, rfl, rfl, Nat.le_of_ble_eq_true rfl, Nat.le_of_ble_eq_true rfl⟩ (Nat.le_of_ble_eq_true rfl) ?_
        refine z_if_eq X 28 dX12_sleepers_21 (by decide) h (fun _ h => ?_) (fun _ h => ?_)
        · refine z_iconst X (0 : Int32) dX12_sleepers_28 (by decide) ?_
          refine z_sub (lv' := [(0, .ref q_this), (1, .int p1), (3, .int x3)]) [0, 1, 3] rfl ?_
          exact H29 (0 : Int32) x2 x3 h
        · refine z_iconst X (1 : Int32) dX12_sleepers_24 (by decide) ?_
          refine z_goto X 29 dX12_sleepers_25 (by decide) ?_
          refine z_sub (lv' := [(0, .ref q_this), (1, .int p1), (3, .int x3)]) [0, 1, 3] rfl ?_
          exact H29 (1 : Int32) x2 x3 h
  refine z_iconst X (0 : Int32) dX12_sleepers_0 (by decide) ?_
  refine z_istore_n X [(2, .int (0 : Int32)), (0, .ref q_this), (1, .int p1)] dX12_sleepers_1 rfl (by decide) rfl ?_
  refine z_iconst X (0 : Int32) dX12_sleepers_2 (by decide) ?_
  refine z_istore_n X [(3, .int (0 : Int32)), (2, .int (0 : Int32)), (0, .ref q_this), (1, .int p1)] dX12_sleepers_3 rfl (by decide) rfl ?_
  refine z_sub (lv' := [(0, .ref q_this), (1, .int p1), (2, .int (0 : Int32)), (3, .int (0 : Int32))]) [2, 3, 1, 0] rfl ?_
  exact H4 100 (0 : Int32) (0 : Int32) h

def J_X12_asleep_13 (p1 : Int32) (p2 : Int32) (a_s : Nat → Int32) (t0 : Int32) (f_thrown : Int32) : Option (Int32 × Int32) :=
  brn (t0 ≤ 0) (bnd (F_X12_sleepers p1 a_s) (fun o3 => some (o3, t0))) (some ((0 : Int32), t0))

def F_X12_asleep (p1 : Int32) (p2 : Int32) (a_s : Nat → Int32) (f_thrown : Int32) : Option (Int32 × Int32) :=
  bnd (F_X12_isHour p1) (fun o1 => brn (o1 = 0) (J_X12_asleep_13 p1 p2 a_s (1 : Int32) f_thrown) (J_X12_asleep_13 p1 p2 a_s (0 : Int32) f_thrown))
theorem dX12_asleep_0 : decode cX12_asleep 0 = .ok (.aload_n 0, 1) := by decide +kernel
theorem dX12_asleep_1 : decode cX12_asleep 1 = .ok (.iload_n 1, 1) := by decide +kernel
theorem dX12_asleep_2 : decode cX12_asleep 2 = .ok (.invokestatic 85, 3) := by decide +kernel
theorem dX12_asleep_5 : decode cX12_asleep 5 = .ok (.ifCond .eq 7, 3) := by decide +kernel
theorem dX12_asleep_8 : decode cX12_asleep 8 = .ok (.iconst 0, 1) := by decide +kernel
theorem dX12_asleep_9 : decode cX12_asleep 9 = .ok (.goto 4, 3) := by decide +kernel
theorem dX12_asleep_12 : decode cX12_asleep 12 = .ok (.iconst 1, 1) := by decide +kernel
theorem dX12_asleep_13 : decode cX12_asleep 13 = .ok (.putfield 42, 3) := by decide +kernel
theorem dX12_asleep_16 : decode cX12_asleep 16 = .ok (.aload_n 0, 1) := by decide +kernel
theorem dX12_asleep_17 : decode cX12_asleep 17 = .ok (.getfield 42, 3) := by decide +kernel
theorem dX12_asleep_20 : decode cX12_asleep 20 = .ok (.ifCond .le 7, 3) := by decide +kernel
theorem dX12_asleep_23 : decode cX12_asleep 23 = .ok (.iconst 0, 1) := by decide +kernel
theorem dX12_asleep_24 : decode cX12_asleep 24 = .ok (.goto 8, 3) := by decide +kernel
theorem dX12_asleep_27 : decode cX12_asleep 27 = .ok (.aload_n 0, 1) := by decide +kernel
theorem dX12_asleep_28 : decode cX12_asleep 28 = .ok (.iload_n 1, 1) := by decide +kernel
theorem dX12_asleep_29 : decode cX12_asleep 29 = .ok (.invokevirtual 138, 3) := by decide +kernel
theorem dX12_asleep_32 : decode cX12_asleep 32 = .ok (.ireturn, 1) := by decide +kernel
theorem k_X12_asleep : cardV yX12_asleep (Cond.code yX12_asleep cX12_asleep 3 (some .int)) 2 := ⟨⟨qi_X12_asleep, qv_X12_asleep⟩, qc_X12_asleep, qn_X12, by decide +kernel, by decide +kernel, by decide +kernel⟩
set_option maxHeartbeats 4000000 in
set_option maxRecDepth 100000 in
theorem c_X12_asleep (l : Launch) (D : va_G) (g : Nat → ClassId) (q_this q_s q_before q_saved q_past q_steps q_goes q_line q_text q_orders : Nat) (p1 p2 : Int32) (f_isSaved : Int32) (f_pastMany : Int32) (f_thrown : Int32) (f_reason : Int32) (f_detail : Int32) (f_isRefused : Int32) (f_goesMany : Int32) (f_roundSteps : Int32) (f_lineMany : Int32) (f_length : Int32) (f_at : Int32) (f_isWrong : Int32) (f_errorAt : Int32) (f_orderMany : Int32) (a_s : Nat → Int32) (o : Int32 × Int32) (h : F_X12_asleep p1 p2 a_s f_thrown = some o) : MW l yX12_asleep (Cond.code yX12_asleep cX12_asleep 3 (some .int)) { frames := 4, cells := 0, slots := 0, locals := 87 } D g [.ref q_this, .int p1, .int p2] [(q_this, .inr (12, [.ref q_s, .ref q_before, .ref q_saved, .int f_isSaved, .ref q_past, .int f_pastMany, .int f_thrown, .int f_reason, .int f_detail, .int f_isRefused, .ref q_steps, .ref q_goes, .int f_goesMany, .int f_roundSteps, .ref q_line, .int f_lineMany, .ref q_text, .int f_length, .int f_at, .int f_isWrong, .int f_errorAt, .ref q_orders, .int f_orderMany])), (q_s, .inl (g 0, 147, .inl a_s))] (some (.int o.1)) [(q_this, .inr (12, [.ref q_s, .ref q_before, .ref q_saved, .int f_isSaved, .ref q_past, .int f_pastMany, .int o.2, .int f_reason, .int f_detail, .int f_isRefused, .ref q_steps, .ref q_goes, .int f_goesMany, .int f_roundSteps, .ref q_line, .int f_lineMany, .ref q_text, .int f_length, .int f_at, .int f_isWrong, .int f_errorAt, .ref q_orders, .int f_orderMany])), (q_s, .inl (g 0, 147, .inl a_s))] := by
  refine z_wr_start (by decide) (Nat.le_of_ble_eq_true rfl) ?_
  intro p e s m args below meth c Q A X hr hQ hA
  refine z_lv (lv' := [(0, .ref q_this), (1, .int p1), (2, .int p2)]) rfl ?_
  have H13 : ∀ (t0 : Int32) (f_thrown : Int32), J_X12_asleep_13 p1 p2 a_s t0 f_thrown = some o → Z p l e { frames := 4, cells := 0, slots := 0, locals := 87 } s m args below meth c Q 3 0 0 (IW D A s [(q_this, .inr (12, [.ref q_s, .ref q_before, .ref q_saved, .int f_isSaved, .ref q_past, .int f_pastMany, .int f_thrown, .int f_reason, .int f_detail, .int f_isRefused, .ref q_steps, .ref q_goes, .int f_goesMany, .int f_roundSteps, .ref q_line, .int f_lineMany, .ref q_text, .int f_length, .int f_at, .int f_isWrong, .int f_errorAt, .ref q_orders, .int f_orderMany])), (q_s, .inl (g 0, 147, .inl a_s))]) 13 [(0, .ref q_this), (1, .int p1)] [.int t0, .ref q_this] := by
    intro t0 f_thrown h
    refine z_put (q0 := 0) (k := 6) (ci := 12) (ws' := [(q_this, .inr (12, [.ref q_s, .ref q_before, .ref q_saved, .int f_isSaved, .ref q_past, .int f_pastMany, .int t0, .int f_reason, .int f_detail, .int f_isRefused, .ref q_steps, .ref q_goes, .int f_goesMany, .int f_roundSteps, .ref q_line, .int f_lineMany, .ref q_text, .int f_length, .int f_at, .int f_isWrong, .int f_errorAt, .ref q_orders, .int f_orderMany])), (q_s, .inl (g 0, 147, .inl a_s))]) X iw_X12 tyX12_ok nmX12 rfl qf_X12_X12_thrown (by decide) rfl rfl dX12_asleep_13 rfl rfl rfl (Nat.le_of_ble_eq_true rfl) rfl ?_
    refine z_aload_n X 0 dX12_asleep_16 rfl rfl ?_
    refine z_get (q0 := 0) (k := 6) (ci := 12) X IW_P iw_X12 rfl qf_X12_X12_thrown (by decide) dX12_asleep_17 rfl rfl ?_
    refine z_if_le X 27 dX12_asleep_20 (by decide) h (fun _ h => ?_) (fun _ h => ?_)
    · refine z_aload_n X 0 dX12_asleep_27 rfl rfl ?_
      refine z_iload_n X 1 dX12_asleep_28 rfl rfl ?_
      obtain ⟨o3, e4, h⟩ := bnd_p h
      refine z_rdV (rest := []) (q0 := 0) (ci := 12) X IW_P k_X12_sleepers (c_X12_sleepers l D g q_this q_s q_before q_saved q_past q_steps q_goes q_line q_text q_orders p1 f_isSaved f_pastMany t0 f_reason f_detail f_isRefused f_goesMany f_roundSteps f_lineMany f_length f_at f_isWrong f_errorAt f_orderMany a_s o3 e4) ql_X12_X12_sleepers dX12_asleep_29 [0, 1] rfl rfl rfl rfl rfl rfl ⟨Nat.le_of_ble_eq_true rfl, Nat.le_of_ble_eq_true rfl, rfl, rfl, Nat.le_of_ble_eq_true rfl, Nat.le_of_ble_eq_true rfl⟩ (Nat.le_of_ble_eq_true rfl) ?_
      cases h
      exact z_iretW X hQ hA hr dX12_asleep_32
    · refine z_iconst X (0 : Int32) dX12_asleep_23 (by decide) ?_
      refine z_goto X 32 dX12_asleep_24 (by decide) ?_
      cases h
      exact z_iretW X hQ hA hr dX12_asleep_32
  refine z_aload_n X 0 dX12_asleep_0 rfl rfl ?_
  refine z_iload_n X 1 dX12_asleep_1 rfl rfl ?_
  obtain ⟨o1, e2, h⟩ := bnd_p h
  refine z_rdS (rest := [.ref q_this]) X IW_P k_X12_isHour (c_X12_isHour l D g p1 o1 e2) ql_X12_X12_isHour dX12_asleep_2 [] rfl rfl rfl ⟨Nat.le_of_ble_eq_true rfl, Nat.le_of_ble_eq_true rfl, rfl, rfl, Nat.le_of_ble_eq_true rfl, Nat.le_of_ble_eq_true rfl⟩ (Nat.le_of_ble_eq_true rfl) ?_
  refine z_if_eq X 12 dX12_asleep_5 (by decide) h (fun _ h => ?_) (fun _ h => ?_)
  · refine z_iconst X (1 : Int32) dX12_asleep_12 (by decide) ?_
    refine z_sub (lv' := [(0, .ref q_this), (1, .int p1)]) [0, 1] rfl ?_
    exact H13 (1 : Int32) f_thrown h
  · refine z_iconst X (0 : Int32) dX12_asleep_8 (by decide) ?_
    refine z_goto X 13 dX12_asleep_9 (by decide) ?_
    refine z_sub (lv' := [(0, .ref q_this), (1, .int p1)]) [0, 1] rfl ?_
    exact H13 (0 : Int32) f_thrown h

def J_X12_deepest_49 (a_s : Nat → Int32) (t0 : Int32) (x1 : Int32) (f_thrown : Int32) : Option (Int32 × Int32) :=
  brn (t0 ≤ 0) (some (x1, t0)) (some ((0 : Int32), t0))

def J_X12_deepest_28 (a_s : Nat → Int32) (r4 : Int32 → Int32 → (Int32) → Option (Int32 × Int32)) (t0 : Int32) (x2 : Int32) (f_thrown : Int32) : Option (Int32 × Int32) :=
  r4 t0 (x2 + 1) f_thrown

def L_X12_deepest_4 (a_s : Nat → Int32) : Nat → Int32 → Int32 → (Int32) → Option (Int32 × Int32)
  | 0, _, _, _ => none
  | _n + 1, x1, x2, f_thrown =>
    brn ((24 : Int32) ≤ x2) (bnd (F_X12_sleepers x1 a_s) (fun o1 => brn (o1 = 0) (J_X12_deepest_49 a_s (1 : Int32) x1 f_thrown) (J_X12_deepest_49 a_s (0 : Int32) x1 f_thrown))) (bnd (F_X12_sleepers x2 a_s) (fun o3 => bnd (F_X12_sleepers x1 a_s) (fun o5 => brn (o3 ≤ o5) (J_X12_deepest_28 a_s (L_X12_deepest_4 a_s _n) x1 x2 f_thrown) (J_X12_deepest_28 a_s (L_X12_deepest_4 a_s _n) x2 x2 f_thrown))))

def F_X12_deepest (a_s : Nat → Int32) (f_thrown : Int32) : Option (Int32 × Int32) :=
  L_X12_deepest_4 a_s 100 (0 : Int32) (1 : Int32) f_thrown
theorem dX12_deepest_0 : decode cX12_deepest 0 = .ok (.iconst 0, 1) := by decide +kernel
theorem dX12_deepest_1 : decode cX12_deepest 1 = .ok (.istore_n 1, 1) := by decide +kernel
theorem dX12_deepest_2 : decode cX12_deepest 2 = .ok (.iconst 1, 1) := by decide +kernel
theorem dX12_deepest_3 : decode cX12_deepest 3 = .ok (.istore_n 2, 1) := by decide +kernel
theorem dX12_deepest_4 : decode cX12_deepest 4 = .ok (.iload_n 2, 1) := by decide +kernel
theorem dX12_deepest_5 : decode cX12_deepest 5 = .ok (.bipush 24, 2) := by decide +kernel
theorem dX12_deepest_7 : decode cX12_deepest 7 = .ok (.if_icmp .ge 28, 3) := by decide +kernel
theorem dX12_deepest_10 : decode cX12_deepest 10 = .ok (.aload_n 0, 1) := by decide +kernel
theorem dX12_deepest_11 : decode cX12_deepest 11 = .ok (.iload_n 2, 1) := by decide +kernel
theorem dX12_deepest_12 : decode cX12_deepest 12 = .ok (.invokevirtual 138, 3) := by decide +kernel
theorem dX12_deepest_15 : decode cX12_deepest 15 = .ok (.aload_n 0, 1) := by decide +kernel
theorem dX12_deepest_16 : decode cX12_deepest 16 = .ok (.iload_n 1, 1) := by decide +kernel
theorem dX12_deepest_17 : decode cX12_deepest 17 = .ok (.invokevirtual 138, 3) := by decide +kernel
theorem dX12_deepest_20 : decode cX12_deepest 20 = .ok (.if_icmp .le 7, 3) := by decide +kernel
theorem dX12_deepest_23 : decode cX12_deepest 23 = .ok (.iload_n 2, 1) := by decide +kernel
theorem dX12_deepest_24 : decode cX12_deepest 24 = .ok (.goto 4, 3) := by decide +kernel
theorem dX12_deepest_27 : decode cX12_deepest 27 = .ok (.iload_n 1, 1) := by decide +kernel
theorem dX12_deepest_28 : decode cX12_deepest 28 = .ok (.istore_n 1, 1) := by decide +kernel
theorem dX12_deepest_29 : decode cX12_deepest 29 = .ok (.iinc 2 1, 3) := by decide +kernel
theorem dX12_deepest_32 : decode cX12_deepest 32 = .ok (.goto (-28), 3) := by decide +kernel
theorem dX12_deepest_35 : decode cX12_deepest 35 = .ok (.aload_n 0, 1) := by decide +kernel
theorem dX12_deepest_36 : decode cX12_deepest 36 = .ok (.aload_n 0, 1) := by decide +kernel
theorem dX12_deepest_37 : decode cX12_deepest 37 = .ok (.iload_n 1, 1) := by decide +kernel
theorem dX12_deepest_38 : decode cX12_deepest 38 = .ok (.invokevirtual 138, 3) := by decide +kernel
theorem dX12_deepest_41 : decode cX12_deepest 41 = .ok (.ifCond .ne 7, 3) := by decide +kernel
theorem dX12_deepest_44 : decode cX12_deepest 44 = .ok (.iconst 1, 1) := by decide +kernel
theorem dX12_deepest_45 : decode cX12_deepest 45 = .ok (.goto 4, 3) := by decide +kernel
theorem dX12_deepest_48 : decode cX12_deepest 48 = .ok (.iconst 0, 1) := by decide +kernel
theorem dX12_deepest_49 : decode cX12_deepest 49 = .ok (.putfield 42, 3) := by decide +kernel
theorem dX12_deepest_52 : decode cX12_deepest 52 = .ok (.aload_n 0, 1) := by decide +kernel
theorem dX12_deepest_53 : decode cX12_deepest 53 = .ok (.getfield 42, 3) := by decide +kernel
theorem dX12_deepest_56 : decode cX12_deepest 56 = .ok (.ifCond .le 7, 3) := by decide +kernel
theorem dX12_deepest_59 : decode cX12_deepest 59 = .ok (.iconst 0, 1) := by decide +kernel
theorem dX12_deepest_60 : decode cX12_deepest 60 = .ok (.goto 4, 3) := by decide +kernel
theorem dX12_deepest_63 : decode cX12_deepest 63 = .ok (.iload_n 1, 1) := by decide +kernel
theorem dX12_deepest_64 : decode cX12_deepest 64 = .ok (.ireturn, 1) := by decide +kernel
theorem k_X12_deepest : cardV yX12_deepest (Cond.code yX12_deepest cX12_deepest 3 (some .int)) 0 := ⟨⟨qi_X12_deepest, qv_X12_deepest⟩, qc_X12_deepest, qn_X12, by decide +kernel, by decide +kernel, by decide +kernel⟩
set_option maxHeartbeats 4000000 in
set_option maxRecDepth 100000 in
theorem c_X12_deepest (l : Launch) (D : va_G) (g : Nat → ClassId) (q_this q_s q_before q_saved q_past q_steps q_goes q_line q_text q_orders : Nat) (f_isSaved : Int32) (f_pastMany : Int32) (f_thrown : Int32) (f_reason : Int32) (f_detail : Int32) (f_isRefused : Int32) (f_goesMany : Int32) (f_roundSteps : Int32) (f_lineMany : Int32) (f_length : Int32) (f_at : Int32) (f_isWrong : Int32) (f_errorAt : Int32) (f_orderMany : Int32) (a_s : Nat → Int32) (o : Int32 × Int32) (h : F_X12_deepest a_s f_thrown = some o) : MW l yX12_deepest (Cond.code yX12_deepest cX12_deepest 3 (some .int)) { frames := 4, cells := 0, slots := 0, locals := 87 } D g [.ref q_this] [(q_this, .inr (12, [.ref q_s, .ref q_before, .ref q_saved, .int f_isSaved, .ref q_past, .int f_pastMany, .int f_thrown, .int f_reason, .int f_detail, .int f_isRefused, .ref q_steps, .ref q_goes, .int f_goesMany, .int f_roundSteps, .ref q_line, .int f_lineMany, .ref q_text, .int f_length, .int f_at, .int f_isWrong, .int f_errorAt, .ref q_orders, .int f_orderMany])), (q_s, .inl (g 0, 147, .inl a_s))] (some (.int o.1)) [(q_this, .inr (12, [.ref q_s, .ref q_before, .ref q_saved, .int f_isSaved, .ref q_past, .int f_pastMany, .int o.2, .int f_reason, .int f_detail, .int f_isRefused, .ref q_steps, .ref q_goes, .int f_goesMany, .int f_roundSteps, .ref q_line, .int f_lineMany, .ref q_text, .int f_length, .int f_at, .int f_isWrong, .int f_errorAt, .ref q_orders, .int f_orderMany])), (q_s, .inl (g 0, 147, .inl a_s))] := by
  refine z_wr_start (by decide) (Nat.le_of_ble_eq_true rfl) ?_
  intro p e s m args below meth c Q A X hr hQ hA
  refine z_lv (lv' := [(0, .ref q_this)]) rfl ?_
  have H49 : ∀ (t0 : Int32) (x1 : Int32) (f_thrown : Int32), J_X12_deepest_49 a_s t0 x1 f_thrown = some o → Z p l e { frames := 4, cells := 0, slots := 0, locals := 87 } s m args below meth c Q 3 0 0 (IW D A s [(q_this, .inr (12, [.ref q_s, .ref q_before, .ref q_saved, .int f_isSaved, .ref q_past, .int f_pastMany, .int f_thrown, .int f_reason, .int f_detail, .int f_isRefused, .ref q_steps, .ref q_goes, .int f_goesMany, .int f_roundSteps, .ref q_line, .int f_lineMany, .ref q_text, .int f_length, .int f_at, .int f_isWrong, .int f_errorAt, .ref q_orders, .int f_orderMany])), (q_s, .inl (g 0, 147, .inl a_s))]) 49 [(0, .ref q_this), (1, .int x1)] [.int t0, .ref q_this] := by
    intro t0 x1 f_thrown h
    refine z_put (q0 := 0) (k := 6) (ci := 12) (ws' := [(q_this, .inr (12, [.ref q_s, .ref q_before, .ref q_saved, .int f_isSaved, .ref q_past, .int f_pastMany, .int t0, .int f_reason, .int f_detail, .int f_isRefused, .ref q_steps, .ref q_goes, .int f_goesMany, .int f_roundSteps, .ref q_line, .int f_lineMany, .ref q_text, .int f_length, .int f_at, .int f_isWrong, .int f_errorAt, .ref q_orders, .int f_orderMany])), (q_s, .inl (g 0, 147, .inl a_s))]) X iw_X12 tyX12_ok nmX12 rfl qf_X12_X12_thrown (by decide) rfl rfl dX12_deepest_49 rfl rfl rfl (Nat.le_of_ble_eq_true rfl) rfl ?_
    refine z_aload_n X 0 dX12_deepest_52 rfl rfl ?_
    refine z_get (q0 := 0) (k := 6) (ci := 12) X IW_P iw_X12 rfl qf_X12_X12_thrown (by decide) dX12_deepest_53 rfl rfl ?_
    refine z_if_le X 63 dX12_deepest_56 (by decide) h (fun _ h => ?_) (fun _ h => ?_)
    · refine z_iload_n X 1 dX12_deepest_63 rfl rfl ?_
      cases h
      exact z_iretW X hQ hA hr dX12_deepest_64
    · refine z_iconst X (0 : Int32) dX12_deepest_59 (by decide) ?_
      refine z_goto X 64 dX12_deepest_60 (by decide) ?_
      cases h
      exact z_iretW X hQ hA hr dX12_deepest_64
  have H4 : ∀ (n : Nat) (x1 : Int32) (x2 : Int32) (f_thrown : Int32), L_X12_deepest_4 a_s  n x1 x2 f_thrown = some o → Z p l e { frames := 4, cells := 0, slots := 0, locals := 87 } s m args below meth c Q 3 0 0 (IW D A s [(q_this, .inr (12, [.ref q_s, .ref q_before, .ref q_saved, .int f_isSaved, .ref q_past, .int f_pastMany, .int f_thrown, .int f_reason, .int f_detail, .int f_isRefused, .ref q_steps, .ref q_goes, .int f_goesMany, .int f_roundSteps, .ref q_line, .int f_lineMany, .ref q_text, .int f_length, .int f_at, .int f_isWrong, .int f_errorAt, .ref q_orders, .int f_orderMany])), (q_s, .inl (g 0, 147, .inl a_s))]) 4 [(0, .ref q_this), (1, .int x1), (2, .int x2)] [] := by
    intro n
    induction n with
    | zero => intro x1 x2 f_thrown h; cases h
    | succ n4 ih4 =>
      intro x1 x2 f_thrown h
      have H28 : ∀ (t0 : Int32) (x2 : Int32) (f_thrown : Int32), J_X12_deepest_28 a_s (L_X12_deepest_4 a_s n4) t0 x2 f_thrown = some o → Z p l e { frames := 4, cells := 0, slots := 0, locals := 87 } s m args below meth c Q 3 0 0 (IW D A s [(q_this, .inr (12, [.ref q_s, .ref q_before, .ref q_saved, .int f_isSaved, .ref q_past, .int f_pastMany, .int f_thrown, .int f_reason, .int f_detail, .int f_isRefused, .ref q_steps, .ref q_goes, .int f_goesMany, .int f_roundSteps, .ref q_line, .int f_lineMany, .ref q_text, .int f_length, .int f_at, .int f_isWrong, .int f_errorAt, .ref q_orders, .int f_orderMany])), (q_s, .inl (g 0, 147, .inl a_s))]) 28 [(0, .ref q_this), (2, .int x2)] [.int t0] := by
        intro t0 x2 f_thrown h
        refine z_istore_n X [(1, .int t0), (0, .ref q_this), (2, .int x2)] dX12_deepest_28 rfl (by decide) rfl ?_
        refine z_iinc X 2 [(2, .int (x2 + 1)), (1, .int t0), (0, .ref q_this)] dX12_deepest_29 rfl rfl (by decide) rfl ?_
        refine z_goto X 4 dX12_deepest_32 (by decide) ?_
        refine z_sub (lv' := [(0, .ref q_this), (1, .int t0), (2, .int (x2 + 1))]) [2, 1, 0] rfl ?_
        exact ih4 t0 (x2 + 1) f_thrown h
      refine z_iload_n X 2 dX12_deepest_4 rfl rfl ?_
      refine z_bipush X (24 : Int32) dX12_deepest_5 (by decide) ?_
      refine z_icmp_ge X 35 dX12_deepest_7 (by decide) h (fun _ h => ?_) (fun _ h => ?_)
      · refine z_aload_n X 0 dX12_deepest_35 rfl rfl ?_
        refine z_aload_n X 0 dX12_deepest_36 rfl rfl ?_
        refine z_iload_n X 1 dX12_deepest_37 rfl rfl ?_
        obtain ⟨o1, e2, h⟩ := bnd_p h
        refine z_rdV (rest := [.ref q_this]) (q0 := 0) (ci := 12) X IW_P k_X12_sleepers (c_X12_sleepers l D g q_this q_s q_before q_saved q_past q_steps q_goes q_line q_text q_orders x1 f_isSaved f_pastMany f_thrown f_reason f_detail f_isRefused f_goesMany f_roundSteps f_lineMany f_length f_at f_isWrong f_errorAt f_orderMany a_s o1 e2) ql_X12_X12_sleepers dX12_deepest_38 [0, 1] rfl rfl rfl rfl rfl rfl ⟨Nat.le_of_ble_eq_true rfl, Nat.le_of_ble_eq_true rfl, rfl, rfl, Nat.le_of_ble_eq_true rfl, Nat.le_of_ble_eq_true rfl⟩ (Nat.le_of_ble_eq_true rfl) ?_
        refine z_if_ne X 48 dX12_deepest_41 (by decide) h (fun _ h => ?_) (fun _ h => ?_)
        · refine z_iconst X (1 : Int32) dX12_deepest_44 (by decide) ?_
          refine z_goto X 49 dX12_deepest_45 (by decide) ?_
          refine z_sub (lv' := [(0, .ref q_this), (1, .int x1)]) [0, 1] rfl ?_
          exact H49 (1 : Int32) x1 f_thrown h
        · refine z_iconst X (0 : Int32) dX12_deepest_48 (by decide) ?_
          refine z_sub (lv' := [(0, .ref q_this), (1, .int x1)]) [0, 1] rfl ?_
          exact H49 (0 : Int32) x1 f_thrown h
      · refine z_aload_n X 0 dX12_deepest_10 rfl rfl ?_
        refine z_iload_n X 2 dX12_deepest_11 rfl rfl ?_
        obtain ⟨o3, e4, h⟩ := bnd_p h
        refine z_rdV (rest := []) (q0 := 0) (ci := 12) X IW_P k_X12_sleepers (c_X12_sleepers l D g q_this q_s q_before q_saved q_past q_steps q_goes q_line q_text q_orders x2 f_isSaved f_pastMany f_thrown f_reason f_detail f_isRefused f_goesMany f_roundSteps f_lineMany f_length f_at f_isWrong f_errorAt f_orderMany a_s o3 e4) ql_X12_X12_sleepers dX12_deepest_12 [0, 1] rfl rfl rfl rfl rfl rfl ⟨Nat.le_of_ble_eq_true rfl, Nat.le_of_ble_eq_true rfl, rfl, rfl, Nat.le_of_ble_eq_true rfl, Nat.le_of_ble_eq_true rfl⟩ (Nat.le_of_ble_eq_true rfl) ?_
        refine z_aload_n X 0 dX12_deepest_15 rfl rfl ?_
        refine z_iload_n X 1 dX12_deepest_16 rfl rfl ?_
        obtain ⟨o5, e6, h⟩ := bnd_p h
        refine z_rdV (rest := [.int o3]) (q0 := 0) (ci := 12) X IW_P k_X12_sleepers (c_X12_sleepers l D g q_this q_s q_before q_saved q_past q_steps q_goes q_line q_text q_orders x1 f_isSaved f_pastMany f_thrown f_reason f_detail f_isRefused f_goesMany f_roundSteps f_lineMany f_length f_at f_isWrong f_errorAt f_orderMany a_s o5 e6) ql_X12_X12_sleepers dX12_deepest_17 [0, 1] rfl rfl rfl rfl rfl rfl ⟨Nat.le_of_ble_eq_true rfl, Nat.le_of_ble_eq_true rfl, rfl, rfl, Nat.le_of_ble_eq_true rfl, Nat.le_of_ble_eq_true rfl⟩ (Nat.le_of_ble_eq_true rfl) ?_
        refine z_icmp_le X 27 dX12_deepest_20 (by decide) h (fun _ h => ?_) (fun _ h => ?_)
        · refine z_iload_n X 1 dX12_deepest_27 rfl rfl ?_
          refine z_sub (lv' := [(0, .ref q_this), (2, .int x2)]) [0, 2] rfl ?_
          exact H28 x1 x2 f_thrown h
        · refine z_iload_n X 2 dX12_deepest_23 rfl rfl ?_
          refine z_goto X 28 dX12_deepest_24 (by decide) ?_
          refine z_sub (lv' := [(0, .ref q_this), (2, .int x2)]) [0, 2] rfl ?_
          exact H28 x2 x2 f_thrown h
  refine z_iconst X (0 : Int32) dX12_deepest_0 (by decide) ?_
  refine z_istore_n X [(1, .int (0 : Int32)), (0, .ref q_this)] dX12_deepest_1 rfl (by decide) rfl ?_
  refine z_iconst X (1 : Int32) dX12_deepest_2 (by decide) ?_
  refine z_istore_n X [(2, .int (1 : Int32)), (1, .int (0 : Int32)), (0, .ref q_this)] dX12_deepest_3 rfl (by decide) rfl ?_
  refine z_sub (lv' := [(0, .ref q_this), (1, .int (0 : Int32)), (2, .int (1 : Int32))]) [2, 1, 0] rfl ?_
  exact H4 100 (0 : Int32) (1 : Int32) f_thrown h

def F_X12_areTones (p0 : Int32) (p1 : Int32) : Option (Int32) :=
  bnd (F_X12_in p0 (0 : Int32) (9 : Int32)) (fun o1 => brn (o1 = 0) (some ((0 : Int32))) (bnd (F_X12_in p1 (0 : Int32) (9 : Int32)) (fun o3 => brn (o3 = 0) (some ((0 : Int32))) (brn ((p0 + p1) ≤ 0) (some ((0 : Int32))) (some ((1 : Int32)))))))
theorem dX12_areTones_0 : decode cX12_areTones 0 = .ok (.iload_n 0, 1) := by decide +kernel
theorem dX12_areTones_1 : decode cX12_areTones 1 = .ok (.iconst 0, 1) := by decide +kernel
theorem dX12_areTones_2 : decode cX12_areTones 2 = .ok (.bipush 9, 2) := by decide +kernel
theorem dX12_areTones_4 : decode cX12_areTones 4 = .ok (.invokestatic 64, 3) := by decide +kernel
theorem dX12_areTones_7 : decode cX12_areTones 7 = .ok (.ifCond .eq 23, 3) := by decide +kernel
theorem dX12_areTones_10 : decode cX12_areTones 10 = .ok (.iload_n 1, 1) := by decide +kernel
theorem dX12_areTones_11 : decode cX12_areTones 11 = .ok (.iconst 0, 1) := by decide +kernel
theorem dX12_areTones_12 : decode cX12_areTones 12 = .ok (.bipush 9, 2) := by decide +kernel
theorem dX12_areTones_14 : decode cX12_areTones 14 = .ok (.invokestatic 64, 3) := by decide +kernel
theorem dX12_areTones_17 : decode cX12_areTones 17 = .ok (.ifCond .eq 13, 3) := by decide +kernel
theorem dX12_areTones_20 : decode cX12_areTones 20 = .ok (.iload_n 0, 1) := by decide +kernel
theorem dX12_areTones_21 : decode cX12_areTones 21 = .ok (.iload_n 1, 1) := by decide +kernel
theorem dX12_areTones_22 : decode cX12_areTones 22 = .ok (.iadd, 1) := by decide +kernel
theorem dX12_areTones_23 : decode cX12_areTones 23 = .ok (.ifCond .le 7, 3) := by decide +kernel
theorem dX12_areTones_26 : decode cX12_areTones 26 = .ok (.iconst 1, 1) := by decide +kernel
theorem dX12_areTones_27 : decode cX12_areTones 27 = .ok (.goto 4, 3) := by decide +kernel
theorem dX12_areTones_30 : decode cX12_areTones 30 = .ok (.iconst 0, 1) := by decide +kernel
theorem dX12_areTones_31 : decode cX12_areTones 31 = .ok (.ireturn, 1) := by decide +kernel
theorem k_X12_areTones : cardS yX12_areTones (Cond.code yX12_areTones cX12_areTones 2 (some .boolean)) 2 := ⟨qs_X12_areTones, qc_X12_areTones, qn_X12, by decide +kernel, by decide +kernel, by decide +kernel⟩
set_option maxHeartbeats 4000000 in
set_option maxRecDepth 100000 in
theorem c_X12_areTones (l : Launch) (D : va_G) (g : Nat → ClassId) (p0 p1 : Int32) (o : Int32) (h : F_X12_areTones p0 p1 = some o) : MR l yX12_areTones (Cond.code yX12_areTones cX12_areTones 2 (some .boolean)) { frames := 1, cells := 0, slots := 0, locals := 22 } D g [.int p0, .int p1] [] (some (.int o)) := by
  refine z_rd_start (by decide) (Nat.le_of_ble_eq_true rfl) ?_
  intro p e s m args below meth c Q X hr hQ
  refine z_lv (lv' := [(0, .int p0), (1, .int p1)]) rfl ?_
  refine z_iload_n X 0 dX12_areTones_0 rfl rfl ?_
  refine z_iconst X (0 : Int32) dX12_areTones_1 (by decide) ?_
  refine z_bipush X (9 : Int32) dX12_areTones_2 (by decide) ?_
  obtain ⟨o1, e2, h⟩ := bnd_p h
  refine z_rdS (rest := []) X IR_P k_X12_in (c_X12_in l D g p0 (0 : Int32) (9 : Int32) o1 e2) ql_X12_X12_in dX12_areTones_4 [] rfl rfl rfl ⟨Nat.le_of_ble_eq_true rfl, Nat.le_of_ble_eq_true rfl, rfl, rfl, Nat.le_of_ble_eq_true rfl, Nat.le_of_ble_eq_true rfl⟩ (Nat.le_of_ble_eq_true rfl) ?_
  refine z_if_eq X 30 dX12_areTones_7 (by decide) h (fun _ h => ?_) (fun _ h => ?_)
  · refine z_iconst X (0 : Int32) dX12_areTones_30 (by decide) ?_
    exact z_zretR X hQ hr dX12_areTones_31 rfl h
  · refine z_iload_n X 1 dX12_areTones_10 rfl rfl ?_
    refine z_iconst X (0 : Int32) dX12_areTones_11 (by decide) ?_
    refine z_bipush X (9 : Int32) dX12_areTones_12 (by decide) ?_
    obtain ⟨o3, e4, h⟩ := bnd_p h
    refine z_rdS (rest := []) X IR_P k_X12_in (c_X12_in l D g p1 (0 : Int32) (9 : Int32) o3 e4) ql_X12_X12_in dX12_areTones_14 [] rfl rfl rfl ⟨Nat.le_of_ble_eq_true rfl, Nat.le_of_ble_eq_true rfl, rfl, rfl, Nat.le_of_ble_eq_true rfl, Nat.le_of_ble_eq_true rfl⟩ (Nat.le_of_ble_eq_true rfl) ?_
    refine z_if_eq X 30 dX12_areTones_17 (by decide) h (fun _ h => ?_) (fun _ h => ?_)
    · refine z_iconst X (0 : Int32) dX12_areTones_30 (by decide) ?_
      exact z_zretR X hQ hr dX12_areTones_31 rfl h
    · refine z_iload_n X 0 dX12_areTones_20 rfl rfl ?_
      refine z_iload_n X 1 dX12_areTones_21 rfl rfl ?_
      refine z_iadd X dX12_areTones_22 ?_
      refine z_if_le X 30 dX12_areTones_23 (by decide) h (fun _ h => ?_) (fun _ h => ?_)
      · refine z_iconst X (0 : Int32) dX12_areTones_30 (by decide) ?_
        exact z_zretR X hQ hr dX12_areTones_31 rfl h
      · refine z_iconst X (1 : Int32) dX12_areTones_26 (by decide) ?_
        refine z_goto X 31 dX12_areTones_27 (by decide) ?_
        exact z_zretR X hQ hr dX12_areTones_31 rfl h

def J_X12_kind_27 (p1 : Int32) (p2 : Int32) (p3 : Int32) (p4 : Int32) (a_s : Nat → Int32) : Option (Int32) :=
  brn (p3 = 0) (brn (p4 ≤ (2 : Int32)) (some ((3 : Int32))) (some ((2 : Int32)))) (some ((3 : Int32)))

def F_X12_kind (p1 : Int32) (p2 : Int32) (p3 : Int32) (p4 : Int32) (a_s : Nat → Int32) : Option (Int32) :=
  brn (p4 = 0) (brn ((3 : Int32) ≤ p3) (J_X12_kind_27 p1 p2 p3 p4 a_s) (bnd (F_X12_sleeps p1 p2 a_s) (fun o1 => brn (o1 = 0) (some (p3 - (1 : Int32))) (some ((3 : Int32)))))) (J_X12_kind_27 p1 p2 p3 p4 a_s)
theorem dX12_kind_0 : decode cX12_kind 0 = .ok (.iload 4, 2) := by decide +kernel
theorem dX12_kind_2 : decode cX12_kind 2 = .ok (.ifCond .ne 25, 3) := by decide +kernel
theorem dX12_kind_5 : decode cX12_kind 5 = .ok (.iload_n 3, 1) := by decide +kernel
theorem dX12_kind_6 : decode cX12_kind 6 = .ok (.iconst 3, 1) := by decide +kernel
theorem dX12_kind_7 : decode cX12_kind 7 = .ok (.if_icmp .ge 20, 3) := by decide +kernel
theorem dX12_kind_10 : decode cX12_kind 10 = .ok (.aload_n 0, 1) := by decide +kernel
theorem dX12_kind_11 : decode cX12_kind 11 = .ok (.iload_n 1, 1) := by decide +kernel
theorem dX12_kind_12 : decode cX12_kind 12 = .ok (.iload_n 2, 1) := by decide +kernel
theorem dX12_kind_13 : decode cX12_kind 13 = .ok (.invokevirtual 134, 3) := by decide +kernel
theorem dX12_kind_16 : decode cX12_kind 16 = .ok (.ifCond .eq 7, 3) := by decide +kernel
theorem dX12_kind_19 : decode cX12_kind 19 = .ok (.iconst 3, 1) := by decide +kernel
theorem dX12_kind_20 : decode cX12_kind 20 = .ok (.goto 6, 3) := by decide +kernel
theorem dX12_kind_23 : decode cX12_kind 23 = .ok (.iload_n 3, 1) := by decide +kernel
theorem dX12_kind_24 : decode cX12_kind 24 = .ok (.iconst 1, 1) := by decide +kernel
theorem dX12_kind_25 : decode cX12_kind 25 = .ok (.isub, 1) := by decide +kernel
theorem dX12_kind_26 : decode cX12_kind 26 = .ok (.ireturn, 1) := by decide +kernel
theorem dX12_kind_27 : decode cX12_kind 27 = .ok (.iload_n 3, 1) := by decide +kernel
theorem dX12_kind_28 : decode cX12_kind 28 = .ok (.ifCond .ne 13, 3) := by decide +kernel
theorem dX12_kind_31 : decode cX12_kind 31 = .ok (.iload 4, 2) := by decide +kernel
theorem dX12_kind_33 : decode cX12_kind 33 = .ok (.iconst 2, 1) := by decide +kernel
theorem dX12_kind_34 : decode cX12_kind 34 = .ok (.if_icmp .le 7, 3) := by decide +kernel
theorem dX12_kind_37 : decode cX12_kind 37 = .ok (.iconst 2, 1) := by decide +kernel
theorem dX12_kind_38 : decode cX12_kind 38 = .ok (.goto 4, 3) := by decide +kernel
theorem dX12_kind_41 : decode cX12_kind 41 = .ok (.iconst 3, 1) := by decide +kernel
theorem dX12_kind_42 : decode cX12_kind 42 = .ok (.ireturn, 1) := by decide +kernel
theorem k_X12_kind : cardV yX12_kind (Cond.code yX12_kind cX12_kind 5 (some .int)) 4 := ⟨⟨qi_X12_kind, qv_X12_kind⟩, qc_X12_kind, qn_X12, by decide +kernel, by decide +kernel, by decide +kernel⟩
set_option maxHeartbeats 4000000 in
set_option maxRecDepth 100000 in
theorem c_X12_kind (l : Launch) (D : va_G) (g : Nat → ClassId) (q_this q_s q_before q_saved q_past q_steps q_goes q_line q_text q_orders : Nat) (p1 p2 p3 p4 : Int32) (f_isSaved : Int32) (f_pastMany : Int32) (f_thrown : Int32) (f_reason : Int32) (f_detail : Int32) (f_isRefused : Int32) (f_goesMany : Int32) (f_roundSteps : Int32) (f_lineMany : Int32) (f_length : Int32) (f_at : Int32) (f_isWrong : Int32) (f_errorAt : Int32) (f_orderMany : Int32) (a_s : Nat → Int32) (o : Int32) (h : F_X12_kind p1 p2 p3 p4 a_s = some o) : MR l yX12_kind (Cond.code yX12_kind cX12_kind 5 (some .int)) { frames := 3, cells := 0, slots := 0, locals := 64 } D g [.ref q_this, .int p1, .int p2, .int p3, .int p4] [(q_this, .inr (12, [.ref q_s, .ref q_before, .ref q_saved, .int f_isSaved, .ref q_past, .int f_pastMany, .int f_thrown, .int f_reason, .int f_detail, .int f_isRefused, .ref q_steps, .ref q_goes, .int f_goesMany, .int f_roundSteps, .ref q_line, .int f_lineMany, .ref q_text, .int f_length, .int f_at, .int f_isWrong, .int f_errorAt, .ref q_orders, .int f_orderMany])), (q_s, .inl (g 0, 147, .inl a_s))] (some (.int o)) := by
  refine z_rd_start (by decide) (Nat.le_of_ble_eq_true rfl) ?_
  intro p e s m args below meth c Q X hr hQ
  refine z_lv (lv' := [(0, .ref q_this), (1, .int p1), (2, .int p2), (3, .int p3), (4, .int p4)]) rfl ?_
  have H27 : J_X12_kind_27 p1 p2 p3 p4 a_s = some o → Z p l e { frames := 3, cells := 0, slots := 0, locals := 64 } s m args below meth c Q 5 0 0 (IR D [(q_this, .inr (12, [.ref q_s, .ref q_before, .ref q_saved, .int f_isSaved, .ref q_past, .int f_pastMany, .int f_thrown, .int f_reason, .int f_detail, .int f_isRefused, .ref q_steps, .ref q_goes, .int f_goesMany, .int f_roundSteps, .ref q_line, .int f_lineMany, .ref q_text, .int f_length, .int f_at, .int f_isWrong, .int f_errorAt, .ref q_orders, .int f_orderMany])), (q_s, .inl (g 0, 147, .inl a_s))] s) 27 [(3, .int p3), (4, .int p4)] [] := by
    intro  h
    refine z_iload_n X 0 dX12_kind_27 rfl rfl ?_
    refine z_if_ne X 41 dX12_kind_28 (by decide) h (fun _ h => ?_) (fun _ h => ?_)
    · refine z_iload X 1 dX12_kind_31 rfl ?_
      refine z_iconst X (2 : Int32) dX12_kind_33 (by decide) ?_
      refine z_icmp_le X 41 dX12_kind_34 (by decide) h (fun _ h => ?_) (fun _ h => ?_)
      · refine z_iconst X (3 : Int32) dX12_kind_41 (by decide) ?_
        exact z_iretR X hQ hr dX12_kind_42 h
      · refine z_iconst X (2 : Int32) dX12_kind_37 (by decide) ?_
        refine z_goto X 42 dX12_kind_38 (by decide) ?_
        exact z_iretR X hQ hr dX12_kind_42 h
    · refine z_iconst X (3 : Int32) dX12_kind_41 (by decide) ?_
      exact z_iretR X hQ hr dX12_kind_42 h
  refine z_iload X 4 dX12_kind_0 rfl ?_
  refine z_if_ne X 27 dX12_kind_2 (by decide) h (fun _ h => ?_) (fun _ h => ?_)
  · refine z_iload_n X 3 dX12_kind_5 rfl rfl ?_
    refine z_iconst X (3 : Int32) dX12_kind_6 (by decide) ?_
    refine z_icmp_ge X 27 dX12_kind_7 (by decide) h (fun _ h => ?_) (fun _ h => ?_)
    · refine z_sub (lv' := [(3, .int p3), (4, .int p4)]) [3, 4] rfl ?_
      exact H27  h
    · refine z_aload_n X 0 dX12_kind_10 rfl rfl ?_
      refine z_iload_n X 1 dX12_kind_11 rfl rfl ?_
      refine z_iload_n X 2 dX12_kind_12 rfl rfl ?_
      obtain ⟨o1, e2, h⟩ := bnd_p h
      refine z_rdV (rest := []) (q0 := 0) (ci := 12) X IR_P k_X12_sleeps (c_X12_sleeps l D g q_this q_s q_before q_saved q_past q_steps q_goes q_line q_text q_orders p1 p2 f_isSaved f_pastMany f_thrown f_reason f_detail f_isRefused f_goesMany f_roundSteps f_lineMany f_length f_at f_isWrong f_errorAt f_orderMany a_s o1 e2) ql_X12_X12_sleeps dX12_kind_13 [0, 1] rfl rfl rfl rfl rfl rfl ⟨Nat.le_of_ble_eq_true rfl, Nat.le_of_ble_eq_true rfl, rfl, rfl, Nat.le_of_ble_eq_true rfl, Nat.le_of_ble_eq_true rfl⟩ (Nat.le_of_ble_eq_true rfl) ?_
      refine z_if_eq X 23 dX12_kind_16 (by decide) h (fun _ h => ?_) (fun _ h => ?_)
      · refine z_iload_n X 3 dX12_kind_23 rfl rfl ?_
        refine z_iconst X (1 : Int32) dX12_kind_24 (by decide) ?_
        refine z_isub X dX12_kind_25 ?_
        exact z_iretR X hQ hr dX12_kind_26 h
      · refine z_iconst X (3 : Int32) dX12_kind_19 (by decide) ?_
        refine z_goto X 26 dX12_kind_20 (by decide) ?_
        exact z_iretR X hQ hr dX12_kind_26 h
  · refine z_sub (lv' := [(3, .int p3), (4, .int p4)]) [3, 4] rfl ?_
    exact H27  h

def J_X12_hears_65 (p1 : Int32) (p2 : Int32) (p3 : Int32) (t0 : Int32) (t1 : Int32) (t2 : Int32) (x4 : Int32) (a_s : Nat → Int32) : Option (Int32 × (Nat → Int32)) :=
  grd (inb t2 147) (some (x4, (upd a_s t2.toNatClampNeg (t1 + t0))))

def F_X12_hears (p1 : Int32) (p2 : Int32) (p3 : Int32) (a_s : Nat → Int32) : Option (Int32 × (Nat → Int32)) :=
  grd (inb (0 : Int32) 147) (bnd (F_X12_kind p1 (a_s (0 : Int32).toNatClampNeg) p2 p3 a_s) (fun o1 => grd (inb ((9 : Int32) + o1) 147) (grd (inb ((9 : Int32) + o1) 147) (bnd (F_X12_at p1 (3 : Int32)) (fun o3 => grd (inb o3 147) (grd (inb o3 147) (bnd (F_X12_at p1 (4 : Int32)) (fun o5 => grd (inb o5 147) (brn (o1 = (3 : Int32)) (J_X12_hears_65 p1 p2 p3 (1 : Int32) ((upd (upd a_s ((9 : Int32) + o1).toNatClampNeg ((a_s ((9 : Int32) + o1).toNatClampNeg) + (1 : Int32))) o3.toNatClampNeg (((upd a_s ((9 : Int32) + o1).toNatClampNeg ((a_s ((9 : Int32) + o1).toNatClampNeg) + (1 : Int32))) o3.toNatClampNeg) + (1 : Int32))) o5.toNatClampNeg) o5 o1 (upd (upd a_s ((9 : Int32) + o1).toNatClampNeg ((a_s ((9 : Int32) + o1).toNatClampNeg) + (1 : Int32))) o3.toNatClampNeg (((upd a_s ((9 : Int32) + o1).toNatClampNeg ((a_s ((9 : Int32) + o1).toNatClampNeg) + (1 : Int32))) o3.toNatClampNeg) + (1 : Int32)))) (J_X12_hears_65 p1 p2 p3 (0 : Int32) ((upd (upd a_s ((9 : Int32) + o1).toNatClampNeg ((a_s ((9 : Int32) + o1).toNatClampNeg) + (1 : Int32))) o3.toNatClampNeg (((upd a_s ((9 : Int32) + o1).toNatClampNeg ((a_s ((9 : Int32) + o1).toNatClampNeg) + (1 : Int32))) o3.toNatClampNeg) + (1 : Int32))) o5.toNatClampNeg) o5 o1 (upd (upd a_s ((9 : Int32) + o1).toNatClampNeg ((a_s ((9 : Int32) + o1).toNatClampNeg) + (1 : Int32))) o3.toNatClampNeg (((upd a_s ((9 : Int32) + o1).toNatClampNeg ((a_s ((9 : Int32) + o1).toNatClampNeg) + (1 : Int32))) o3.toNatClampNeg) + (1 : Int32)))))))))))))
theorem dX12_hears_0 : decode cX12_hears 0 = .ok (.aload_n 0, 1) := by decide +kernel
theorem dX12_hears_1 : decode cX12_hears 1 = .ok (.iload_n 1, 1) := by decide +kernel
theorem dX12_hears_2 : decode cX12_hears 2 = .ok (.aload_n 0, 1) := by decide +kernel
theorem dX12_hears_3 : decode cX12_hears 3 = .ok (.getfield 9, 3) := by decide +kernel
theorem dX12_hears_6 : decode cX12_hears 6 = .ok (.iconst 0, 1) := by decide +kernel
theorem dX12_hears_7 : decode cX12_hears 7 = .ok (.iaload, 1) := by decide +kernel
theorem dX12_hears_8 : decode cX12_hears 8 = .ok (.iload_n 2, 1) := by decide +kernel
theorem dX12_hears_9 : decode cX12_hears 9 = .ok (.iload_n 3, 1) := by decide +kernel
theorem dX12_hears_10 : decode cX12_hears 10 = .ok (.invokevirtual 141, 3) := by decide +kernel
theorem dX12_hears_13 : decode cX12_hears 13 = .ok (.istore 4, 2) := by decide +kernel
theorem dX12_hears_15 : decode cX12_hears 15 = .ok (.aload_n 0, 1) := by decide +kernel
theorem dX12_hears_16 : decode cX12_hears 16 = .ok (.getfield 9, 3) := by decide +kernel
theorem dX12_hears_19 : decode cX12_hears 19 = .ok (.bipush 9, 2) := by decide +kernel
theorem dX12_hears_21 : decode cX12_hears 21 = .ok (.iload 4, 2) := by decide +kernel
theorem dX12_hears_23 : decode cX12_hears 23 = .ok (.iadd, 1) := by decide +kernel
theorem dX12_hears_24 : decode cX12_hears 24 = .ok (.dup2, 1) := by decide +kernel
theorem dX12_hears_25 : decode cX12_hears 25 = .ok (.iaload, 1) := by decide +kernel
theorem dX12_hears_26 : decode cX12_hears 26 = .ok (.iconst 1, 1) := by decide +kernel
theorem dX12_hears_27 : decode cX12_hears 27 = .ok (.iadd, 1) := by decide +kernel
theorem dX12_hears_28 : decode cX12_hears 28 = .ok (.iastore, 1) := by decide +kernel
theorem dX12_hears_29 : decode cX12_hears 29 = .ok (.aload_n 0, 1) := by decide +kernel
theorem dX12_hears_30 : decode cX12_hears 30 = .ok (.getfield 9, 3) := by decide +kernel
theorem dX12_hears_33 : decode cX12_hears 33 = .ok (.iload_n 1, 1) := by decide +kernel
theorem dX12_hears_34 : decode cX12_hears 34 = .ok (.iconst 3, 1) := by decide +kernel
theorem dX12_hears_35 : decode cX12_hears 35 = .ok (.invokestatic 68, 3) := by decide +kernel
theorem dX12_hears_38 : decode cX12_hears 38 = .ok (.dup2, 1) := by decide +kernel
theorem dX12_hears_39 : decode cX12_hears 39 = .ok (.iaload, 1) := by decide +kernel
theorem dX12_hears_40 : decode cX12_hears 40 = .ok (.iconst 1, 1) := by decide +kernel
theorem dX12_hears_41 : decode cX12_hears 41 = .ok (.iadd, 1) := by decide +kernel
theorem dX12_hears_42 : decode cX12_hears 42 = .ok (.iastore, 1) := by decide +kernel
theorem dX12_hears_43 : decode cX12_hears 43 = .ok (.aload_n 0, 1) := by decide +kernel
theorem dX12_hears_44 : decode cX12_hears 44 = .ok (.getfield 9, 3) := by decide +kernel
theorem dX12_hears_47 : decode cX12_hears 47 = .ok (.iload_n 1, 1) := by decide +kernel
theorem dX12_hears_48 : decode cX12_hears 48 = .ok (.iconst 4, 1) := by decide +kernel
theorem dX12_hears_49 : decode cX12_hears 49 = .ok (.invokestatic 68, 3) := by decide +kernel
theorem dX12_hears_52 : decode cX12_hears 52 = .ok (.dup2, 1) := by decide +kernel
theorem dX12_hears_53 : decode cX12_hears 53 = .ok (.iaload, 1) := by decide +kernel
theorem dX12_hears_54 : decode cX12_hears 54 = .ok (.iload 4, 2) := by decide +kernel
theorem dX12_hears_56 : decode cX12_hears 56 = .ok (.iconst 3, 1) := by decide +kernel
theorem dX12_hears_57 : decode cX12_hears 57 = .ok (.if_icmp .ne 7, 3) := by decide +kernel
theorem dX12_hears_60 : decode cX12_hears 60 = .ok (.iconst 1, 1) := by decide +kernel
theorem dX12_hears_61 : decode cX12_hears 61 = .ok (.goto 4, 3) := by decide +kernel
theorem dX12_hears_64 : decode cX12_hears 64 = .ok (.iconst 0, 1) := by decide +kernel
theorem dX12_hears_65 : decode cX12_hears 65 = .ok (.iadd, 1) := by decide +kernel
theorem dX12_hears_66 : decode cX12_hears 66 = .ok (.iastore, 1) := by decide +kernel
theorem dX12_hears_67 : decode cX12_hears 67 = .ok (.iload 4, 2) := by decide +kernel
theorem dX12_hears_69 : decode cX12_hears 69 = .ok (.ireturn, 1) := by decide +kernel
theorem k_X12_hears : cardV yX12_hears (Cond.code yX12_hears cX12_hears 5 (some .int)) 3 := ⟨⟨qi_X12_hears, qv_X12_hears⟩, qc_X12_hears, qn_X12, by decide +kernel, by decide +kernel, by decide +kernel⟩
set_option maxHeartbeats 4000000 in
set_option maxRecDepth 100000 in
theorem c_X12_hears (l : Launch) (D : va_G) (g : Nat → ClassId) (q_this q_s q_before q_saved q_past q_steps q_goes q_line q_text q_orders : Nat) (p1 p2 p3 : Int32) (f_isSaved : Int32) (f_pastMany : Int32) (f_thrown : Int32) (f_reason : Int32) (f_detail : Int32) (f_isRefused : Int32) (f_goesMany : Int32) (f_roundSteps : Int32) (f_lineMany : Int32) (f_length : Int32) (f_at : Int32) (f_isWrong : Int32) (f_errorAt : Int32) (f_orderMany : Int32) (a_s : Nat → Int32) (o : Int32 × (Nat → Int32)) (h : F_X12_hears p1 p2 p3 a_s = some o) : MW l yX12_hears (Cond.code yX12_hears cX12_hears 5 (some .int)) { frames := 4, cells := 0, slots := 0, locals := 88 } D g [.ref q_this, .int p1, .int p2, .int p3] [(q_this, .inr (12, [.ref q_s, .ref q_before, .ref q_saved, .int f_isSaved, .ref q_past, .int f_pastMany, .int f_thrown, .int f_reason, .int f_detail, .int f_isRefused, .ref q_steps, .ref q_goes, .int f_goesMany, .int f_roundSteps, .ref q_line, .int f_lineMany, .ref q_text, .int f_length, .int f_at, .int f_isWrong, .int f_errorAt, .ref q_orders, .int f_orderMany])), (q_s, .inl (g 0, 147, .inl a_s))] (some (.int o.1)) [(q_this, .inr (12, [.ref q_s, .ref q_before, .ref q_saved, .int f_isSaved, .ref q_past, .int f_pastMany, .int f_thrown, .int f_reason, .int f_detail, .int f_isRefused, .ref q_steps, .ref q_goes, .int f_goesMany, .int f_roundSteps, .ref q_line, .int f_lineMany, .ref q_text, .int f_length, .int f_at, .int f_isWrong, .int f_errorAt, .ref q_orders, .int f_orderMany])), (q_s, .inl (g 0, 147, .inl o.2))] := by
  refine z_wr_start (by decide) (Nat.le_of_ble_eq_true rfl) ?_
  intro p e s m args below meth c Q A X hr hQ hA
  refine z_lv (lv' := [(0, .ref q_this), (1, .int p1), (2, .int p2), (3, .int p3)]) rfl ?_
  have H65 : ∀ (t0 : Int32) (t1 : Int32) (t2 : Int32) (x4 : Int32) (a_s : Nat → Int32), J_X12_hears_65 p1 p2 p3 t0 t1 t2 x4 a_s = some o → Z p l e { frames := 4, cells := 0, slots := 0, locals := 88 } s m args below meth c Q 5 0 0 (IW D A s [(q_this, .inr (12, [.ref q_s, .ref q_before, .ref q_saved, .int f_isSaved, .ref q_past, .int f_pastMany, .int f_thrown, .int f_reason, .int f_detail, .int f_isRefused, .ref q_steps, .ref q_goes, .int f_goesMany, .int f_roundSteps, .ref q_line, .int f_lineMany, .ref q_text, .int f_length, .int f_at, .int f_isWrong, .int f_errorAt, .ref q_orders, .int f_orderMany])), (q_s, .inl (g 0, 147, .inl a_s))]) 65 [(4, .int x4)] [.int t0, .int t1, .int t2, .ref q_s] := by
    intro t0 t1 t2 x4 a_s h
    refine z_iadd X dX12_hears_65 ?_
    refine z_iast (q0 := 1) (ws' := [(q_this, .inr (12, [.ref q_s, .ref q_before, .ref q_saved, .int f_isSaved, .ref q_past, .int f_pastMany, .int f_thrown, .int f_reason, .int f_detail, .int f_isRefused, .ref q_steps, .ref q_goes, .int f_goesMany, .int f_roundSteps, .ref q_line, .int f_lineMany, .ref q_text, .int f_length, .int f_at, .int f_isWrong, .int f_errorAt, .ref q_orders, .int f_orderMany])), (q_s, .inl (g 0, 147, .inl (upd a_s t2.toNatClampNeg (t1 + t0))))]) X dX12_hears_66 rfl h rfl (fun h => ?_)
    refine z_iload X 0 dX12_hears_67 rfl ?_
    cases h
    exact z_iretW X hQ hA hr dX12_hears_69
  refine z_aload_n X 0 dX12_hears_0 rfl rfl ?_
  refine z_iload_n X 1 dX12_hears_1 rfl rfl ?_
  refine z_aload_n X 0 dX12_hears_2 rfl rfl ?_
  refine z_get (q0 := 0) (k := 0) (ci := 12) X IW_P iw_X12 rfl qf_X12_X12_s (by decide) dX12_hears_3 rfl rfl ?_
  refine z_iconst X (0 : Int32) dX12_hears_6 (by decide) ?_
  refine z_iald (q0 := 1) X IW_P dX12_hears_7 rfl h (fun h => ?_)
  refine z_iload_n X 2 dX12_hears_8 rfl rfl ?_
  refine z_iload_n X 3 dX12_hears_9 rfl rfl ?_
  obtain ⟨o1, e2, h⟩ := bnd_p h
  refine z_rdV (rest := []) (q0 := 0) (ci := 12) X IW_P k_X12_kind (c_X12_kind l D g q_this q_s q_before q_saved q_past q_steps q_goes q_line q_text q_orders p1 (a_s (0 : Int32).toNatClampNeg) p2 p3 f_isSaved f_pastMany f_thrown f_reason f_detail f_isRefused f_goesMany f_roundSteps f_lineMany f_length f_at f_isWrong f_errorAt f_orderMany a_s o1 e2) ql_X12_X12_kind dX12_hears_10 [0, 1] rfl rfl rfl rfl rfl rfl ⟨Nat.le_of_ble_eq_true rfl, Nat.le_of_ble_eq_true rfl, rfl, rfl, Nat.le_of_ble_eq_true rfl, Nat.le_of_ble_eq_true rfl⟩ (Nat.le_of_ble_eq_true rfl) ?_
  refine z_istore X [(4, .int o1), (0, .ref q_this), (1, .int p1), (2, .int p2), (3, .int p3)] dX12_hears_13 (by decide) rfl ?_
  refine z_aload_n X 1 dX12_hears_15 rfl rfl ?_
  refine z_get (q0 := 0) (k := 0) (ci := 12) X IW_P iw_X12 rfl qf_X12_X12_s (by decide) dX12_hears_16 rfl rfl ?_
  refine z_bipush X (9 : Int32) dX12_hears_19 (by decide) ?_
  refine z_iload X 0 dX12_hears_21 rfl ?_
  refine z_iadd X dX12_hears_23 ?_
  refine z_dup2 X dX12_hears_24 rfl rfl ?_
  refine z_iald (q0 := 1) X IW_P dX12_hears_25 rfl h (fun h => ?_)
  refine z_iconst X (1 : Int32) dX12_hears_26 (by decide) ?_
  refine z_iadd X dX12_hears_27 ?_
  refine z_iast (q0 := 1) (ws' := [(q_this, .inr (12, [.ref q_s, .ref q_before, .ref q_saved, .int f_isSaved, .ref q_past, .int f_pastMany, .int f_thrown, .int f_reason, .int f_detail, .int f_isRefused, .ref q_steps, .ref q_goes, .int f_goesMany, .int f_roundSteps, .ref q_line, .int f_lineMany, .ref q_text, .int f_length, .int f_at, .int f_isWrong, .int f_errorAt, .ref q_orders, .int f_orderMany])), (q_s, .inl (g 0, 147, .inl (upd a_s ((9 : Int32) + o1).toNatClampNeg ((a_s ((9 : Int32) + o1).toNatClampNeg) + (1 : Int32)))))]) X dX12_hears_28 rfl h rfl (fun h => ?_)
  refine z_aload_n X 1 dX12_hears_29 rfl rfl ?_
  refine z_get (q0 := 0) (k := 0) (ci := 12) X IW_P iw_X12 rfl qf_X12_X12_s (by decide) dX12_hears_30 rfl rfl ?_
  refine z_iload_n X 2 dX12_hears_33 rfl rfl ?_
  refine z_iconst X (3 : Int32) dX12_hears_34 (by decide) ?_
  obtain ⟨o3, e4, h⟩ := bnd_p h
  refine z_rdS (rest := [.ref q_s]) X IW_P k_X12_at (c_X12_at l D g p1 (3 : Int32) o3 e4) ql_X12_X12_at dX12_hears_35 [] rfl rfl rfl ⟨Nat.le_of_ble_eq_true rfl, Nat.le_of_ble_eq_true rfl, rfl, rfl, Nat.le_of_ble_eq_true rfl, Nat.le_of_ble_eq_true rfl⟩ (Nat.le_of_ble_eq_true rfl) ?_
  refine z_dup2 X dX12_hears_38 rfl rfl ?_
  refine z_iald (q0 := 1) X IW_P dX12_hears_39 rfl h (fun h => ?_)
  refine z_iconst X (1 : Int32) dX12_hears_40 (by decide) ?_
  refine z_iadd X dX12_hears_41 ?_
  refine z_iast (q0 := 1) (ws' := [(q_this, .inr (12, [.ref q_s, .ref q_before, .ref q_saved, .int f_isSaved, .ref q_past, .int f_pastMany, .int f_thrown, .int f_reason, .int f_detail, .int f_isRefused, .ref q_steps, .ref q_goes, .int f_goesMany, .int f_roundSteps, .ref q_line, .int f_lineMany, .ref q_text, .int f_length, .int f_at, .int f_isWrong, .int f_errorAt, .ref q_orders, .int f_orderMany])), (q_s, .inl (g 0, 147, .inl (upd (upd a_s ((9 : Int32) + o1).toNatClampNeg ((a_s ((9 : Int32) + o1).toNatClampNeg) + (1 : Int32))) o3.toNatClampNeg (((upd a_s ((9 : Int32) + o1).toNatClampNeg ((a_s ((9 : Int32) + o1).toNatClampNeg) + (1 : Int32))) o3.toNatClampNeg) + (1 : Int32)))))]) X dX12_hears_42 rfl h rfl (fun h => ?_)
  refine z_aload_n X 1 dX12_hears_43 rfl rfl ?_
  refine z_get (q0 := 0) (k := 0) (ci := 12) X IW_P iw_X12 rfl qf_X12_X12_s (by decide) dX12_hears_44 rfl rfl ?_
  refine z_iload_n X 2 dX12_hears_47 rfl rfl ?_
  refine z_iconst X (4 : Int32) dX12_hears_48 (by decide) ?_
  obtain ⟨o5, e6, h⟩ := bnd_p h
  refine z_rdS (rest := [.ref q_s]) X IW_P k_X12_at (c_X12_at l D g p1 (4 : Int32) o5 e6) ql_X12_X12_at dX12_hears_49 [] rfl rfl rfl ⟨Nat.le_of_ble_eq_true rfl, Nat.le_of_ble_eq_true rfl, rfl, rfl, Nat.le_of_ble_eq_true rfl, Nat.le_of_ble_eq_true rfl⟩ (Nat.le_of_ble_eq_true rfl) ?_
  refine z_dup2 X dX12_hears_52 rfl rfl ?_
  refine z_iald (q0 := 1) X IW_P dX12_hears_53 rfl h (fun h => ?_)
  refine z_iload X 0 dX12_hears_54 rfl ?_
  refine z_iconst X (3 : Int32) dX12_hears_56 (by decide) ?_
  refine z_icmp_ne X 64 dX12_hears_57 (by decide) h (fun _ h => ?_) (fun _ h => ?_)
  · refine z_iconst X (1 : Int32) dX12_hears_60 (by decide) ?_
    refine z_goto X 65 dX12_hears_61 (by decide) ?_
    refine z_sub (lv' := [(4, .int o1)]) [0] rfl ?_
    exact H65 (1 : Int32) ((upd (upd a_s ((9 : Int32) + o1).toNatClampNeg ((a_s ((9 : Int32) + o1).toNatClampNeg) + (1 : Int32))) o3.toNatClampNeg (((upd a_s ((9 : Int32) + o1).toNatClampNeg ((a_s ((9 : Int32) + o1).toNatClampNeg) + (1 : Int32))) o3.toNatClampNeg) + (1 : Int32))) o5.toNatClampNeg) o5 o1 (upd (upd a_s ((9 : Int32) + o1).toNatClampNeg ((a_s ((9 : Int32) + o1).toNatClampNeg) + (1 : Int32))) o3.toNatClampNeg (((upd a_s ((9 : Int32) + o1).toNatClampNeg ((a_s ((9 : Int32) + o1).toNatClampNeg) + (1 : Int32))) o3.toNatClampNeg) + (1 : Int32))) h
  · refine z_iconst X (0 : Int32) dX12_hears_64 (by decide) ?_
    refine z_sub (lv' := [(4, .int o1)]) [0] rfl ?_
    exact H65 (0 : Int32) ((upd (upd a_s ((9 : Int32) + o1).toNatClampNeg ((a_s ((9 : Int32) + o1).toNatClampNeg) + (1 : Int32))) o3.toNatClampNeg (((upd a_s ((9 : Int32) + o1).toNatClampNeg ((a_s ((9 : Int32) + o1).toNatClampNeg) + (1 : Int32))) o3.toNatClampNeg) + (1 : Int32))) o5.toNatClampNeg) o5 o1 (upd (upd a_s ((9 : Int32) + o1).toNatClampNeg ((a_s ((9 : Int32) + o1).toNatClampNeg) + (1 : Int32))) o3.toNatClampNeg (((upd a_s ((9 : Int32) + o1).toNatClampNeg ((a_s ((9 : Int32) + o1).toNatClampNeg) + (1 : Int32))) o3.toNatClampNeg) + (1 : Int32))) h

def F_X12_areInHall (p1 : Int32) (p2 : Int32) (a_s : Nat → Int32) : Option (Int32) :=
  bnd (F_X12_cellOf p1 a_s) (fun o1 => bnd (F_X12_hallOn o1 a_s) (fun o3 => brn (p1 = p2) (some ((0 : Int32))) (brn (o3 < 0) (some ((0 : Int32))) (bnd (F_X12_cellOf p2 a_s) (fun o5 => bnd (F_X12_hallOn o5 a_s) (fun o7 => brn (o7 = o3) (some ((1 : Int32))) (some ((0 : Int32)))))))))
theorem dX12_areInHall_0 : decode cX12_areInHall 0 = .ok (.aload_n 0, 1) := by decide +kernel
theorem dX12_areInHall_1 : decode cX12_areInHall 1 = .ok (.aload_n 0, 1) := by decide +kernel
theorem dX12_areInHall_2 : decode cX12_areInHall 2 = .ok (.iload_n 1, 1) := by decide +kernel
theorem dX12_areInHall_3 : decode cX12_areInHall 3 = .ok (.invokevirtual 72, 3) := by decide +kernel
theorem dX12_areInHall_6 : decode cX12_areInHall 6 = .ok (.invokevirtual 119, 3) := by decide +kernel
theorem dX12_areInHall_9 : decode cX12_areInHall 9 = .ok (.istore_n 3, 1) := by decide +kernel
theorem dX12_areInHall_10 : decode cX12_areInHall 10 = .ok (.iload_n 1, 1) := by decide +kernel
theorem dX12_areInHall_11 : decode cX12_areInHall 11 = .ok (.iload_n 2, 1) := by decide +kernel
theorem dX12_areInHall_12 : decode cX12_areInHall 12 = .ok (.if_icmp .eq 24, 3) := by decide +kernel
theorem dX12_areInHall_15 : decode cX12_areInHall 15 = .ok (.iload_n 3, 1) := by decide +kernel
theorem dX12_areInHall_16 : decode cX12_areInHall 16 = .ok (.ifCond .lt 20, 3) := by decide +kernel
theorem dX12_areInHall_19 : decode cX12_areInHall 19 = .ok (.aload_n 0, 1) := by decide +kernel
theorem dX12_areInHall_20 : decode cX12_areInHall 20 = .ok (.aload_n 0, 1) := by decide +kernel
theorem dX12_areInHall_21 : decode cX12_areInHall 21 = .ok (.iload_n 2, 1) := by decide +kernel
theorem dX12_areInHall_22 : decode cX12_areInHall 22 = .ok (.invokevirtual 72, 3) := by decide +kernel
theorem dX12_areInHall_25 : decode cX12_areInHall 25 = .ok (.invokevirtual 119, 3) := by decide +kernel
theorem dX12_areInHall_28 : decode cX12_areInHall 28 = .ok (.iload_n 3, 1) := by decide +kernel
theorem dX12_areInHall_29 : decode cX12_areInHall 29 = .ok (.if_icmp .ne 7, 3) := by decide +kernel
theorem dX12_areInHall_32 : decode cX12_areInHall 32 = .ok (.iconst 1, 1) := by decide +kernel
theorem dX12_areInHall_33 : decode cX12_areInHall 33 = .ok (.goto 4, 3) := by decide +kernel
theorem dX12_areInHall_36 : decode cX12_areInHall 36 = .ok (.iconst 0, 1) := by decide +kernel
theorem dX12_areInHall_37 : decode cX12_areInHall 37 = .ok (.ireturn, 1) := by decide +kernel
theorem k_X12_areInHall : cardV yX12_areInHall (Cond.code yX12_areInHall cX12_areInHall 4 (some .boolean)) 2 := ⟨⟨qi_X12_areInHall, qv_X12_areInHall⟩, qc_X12_areInHall, qn_X12, by decide +kernel, by decide +kernel, by decide +kernel⟩
set_option maxHeartbeats 4000000 in
set_option maxRecDepth 100000 in
theorem c_X12_areInHall (l : Launch) (D : va_G) (g : Nat → ClassId) (q_this q_s q_before q_saved q_past q_steps q_goes q_line q_text q_orders : Nat) (p1 p2 : Int32) (f_isSaved : Int32) (f_pastMany : Int32) (f_thrown : Int32) (f_reason : Int32) (f_detail : Int32) (f_isRefused : Int32) (f_goesMany : Int32) (f_roundSteps : Int32) (f_lineMany : Int32) (f_length : Int32) (f_at : Int32) (f_isWrong : Int32) (f_errorAt : Int32) (f_orderMany : Int32) (a_s : Nat → Int32) (o : Int32) (h : F_X12_areInHall p1 p2 a_s = some o) : MR l yX12_areInHall (Cond.code yX12_areInHall cX12_areInHall 4 (some .boolean)) { frames := 2, cells := 0, slots := 0, locals := 46 } D g [.ref q_this, .int p1, .int p2] [(q_this, .inr (12, [.ref q_s, .ref q_before, .ref q_saved, .int f_isSaved, .ref q_past, .int f_pastMany, .int f_thrown, .int f_reason, .int f_detail, .int f_isRefused, .ref q_steps, .ref q_goes, .int f_goesMany, .int f_roundSteps, .ref q_line, .int f_lineMany, .ref q_text, .int f_length, .int f_at, .int f_isWrong, .int f_errorAt, .ref q_orders, .int f_orderMany])), (q_s, .inl (g 0, 147, .inl a_s))] (some (.int o)) := by
  refine z_rd_start (by decide) (Nat.le_of_ble_eq_true rfl) ?_
  intro p e s m args below meth c Q X hr hQ
  refine z_lv (lv' := [(0, .ref q_this), (1, .int p1), (2, .int p2)]) rfl ?_
  refine z_aload_n X 0 dX12_areInHall_0 rfl rfl ?_
  refine z_aload_n X 0 dX12_areInHall_1 rfl rfl ?_
  refine z_iload_n X 1 dX12_areInHall_2 rfl rfl ?_
  obtain ⟨o1, e2, h⟩ := bnd_p h
  refine z_rdV (rest := [.ref q_this]) (q0 := 0) (ci := 12) X IR_P k_X12_cellOf (c_X12_cellOf l D g q_this q_s q_before q_saved q_past q_steps q_goes q_line q_text q_orders p1 f_isSaved f_pastMany f_thrown f_reason f_detail f_isRefused f_goesMany f_roundSteps f_lineMany f_length f_at f_isWrong f_errorAt f_orderMany a_s o1 e2) ql_X12_X12_cellOf dX12_areInHall_3 [0, 1] rfl rfl rfl rfl rfl rfl ⟨Nat.le_of_ble_eq_true rfl, Nat.le_of_ble_eq_true rfl, rfl, rfl, Nat.le_of_ble_eq_true rfl, Nat.le_of_ble_eq_true rfl⟩ (Nat.le_of_ble_eq_true rfl) ?_
  obtain ⟨o3, e4, h⟩ := bnd_p h
  refine z_rdV (rest := []) (q0 := 0) (ci := 12) X IR_P k_X12_hallOn (c_X12_hallOn l D g q_this q_s q_before q_saved q_past q_steps q_goes q_line q_text q_orders o1 f_isSaved f_pastMany f_thrown f_reason f_detail f_isRefused f_goesMany f_roundSteps f_lineMany f_length f_at f_isWrong f_errorAt f_orderMany a_s o3 e4) ql_X12_X12_hallOn dX12_areInHall_6 [0, 1] rfl rfl rfl rfl rfl rfl ⟨Nat.le_of_ble_eq_true rfl, Nat.le_of_ble_eq_true rfl, rfl, rfl, Nat.le_of_ble_eq_true rfl, Nat.le_of_ble_eq_true rfl⟩ (Nat.le_of_ble_eq_true rfl) ?_
  refine z_istore_n X [(3, .int o3), (0, .ref q_this), (1, .int p1), (2, .int p2)] dX12_areInHall_9 rfl (by decide) rfl ?_
  refine z_iload_n X 2 dX12_areInHall_10 rfl rfl ?_
  refine z_iload_n X 3 dX12_areInHall_11 rfl rfl ?_
  refine z_icmp_eq X 36 dX12_areInHall_12 (by decide) h (fun _ h => ?_) (fun _ h => ?_)
  · refine z_iconst X (0 : Int32) dX12_areInHall_36 (by decide) ?_
    exact z_zretR X hQ hr dX12_areInHall_37 rfl h
  · refine z_iload_n X 0 dX12_areInHall_15 rfl rfl ?_
    refine z_if_lt X 36 dX12_areInHall_16 (by decide) h (fun _ h => ?_) (fun _ h => ?_)
    · refine z_iconst X (0 : Int32) dX12_areInHall_36 (by decide) ?_
      exact z_zretR X hQ hr dX12_areInHall_37 rfl h
    · refine z_aload_n X 1 dX12_areInHall_19 rfl rfl ?_
      refine z_aload_n X 1 dX12_areInHall_20 rfl rfl ?_
      refine z_iload_n X 3 dX12_areInHall_21 rfl rfl ?_
      obtain ⟨o5, e6, h⟩ := bnd_p h
      refine z_rdV (rest := [.ref q_this]) (q0 := 0) (ci := 12) X IR_P k_X12_cellOf (c_X12_cellOf l D g q_this q_s q_before q_saved q_past q_steps q_goes q_line q_text q_orders p2 f_isSaved f_pastMany f_thrown f_reason f_detail f_isRefused f_goesMany f_roundSteps f_lineMany f_length f_at f_isWrong f_errorAt f_orderMany a_s o5 e6) ql_X12_X12_cellOf dX12_areInHall_22 [0, 1] rfl rfl rfl rfl rfl rfl ⟨Nat.le_of_ble_eq_true rfl, Nat.le_of_ble_eq_true rfl, rfl, rfl, Nat.le_of_ble_eq_true rfl, Nat.le_of_ble_eq_true rfl⟩ (Nat.le_of_ble_eq_true rfl) ?_
      obtain ⟨o7, e8, h⟩ := bnd_p h
      refine z_rdV (rest := []) (q0 := 0) (ci := 12) X IR_P k_X12_hallOn (c_X12_hallOn l D g q_this q_s q_before q_saved q_past q_steps q_goes q_line q_text q_orders o5 f_isSaved f_pastMany f_thrown f_reason f_detail f_isRefused f_goesMany f_roundSteps f_lineMany f_length f_at f_isWrong f_errorAt f_orderMany a_s o7 e8) ql_X12_X12_hallOn dX12_areInHall_25 [0, 1] rfl rfl rfl rfl rfl rfl ⟨Nat.le_of_ble_eq_true rfl, Nat.le_of_ble_eq_true rfl, rfl, rfl, Nat.le_of_ble_eq_true rfl, Nat.le_of_ble_eq_true rfl⟩ (Nat.le_of_ble_eq_true rfl) ?_
      refine z_iload_n X 0 dX12_areInHall_28 rfl rfl ?_
      refine z_icmp_ne X 36 dX12_areInHall_29 (by decide) h (fun _ h => ?_) (fun _ h => ?_)
      · refine z_iconst X (1 : Int32) dX12_areInHall_32 (by decide) ?_
        refine z_goto X 37 dX12_areInHall_33 (by decide) ?_
        exact z_zretR X hQ hr dX12_areInHall_37 rfl h
      · refine z_iconst X (0 : Int32) dX12_areInHall_36 (by decide) ?_
        exact z_zretR X hQ hr dX12_areInHall_37 rfl h

def F_X12_shortsAt (p1 : Int32) (p2 : Int32) (p3 : Int32) (a_s : Nat → Int32) : Option (Int32) :=
  bnd (F_X12_cellOf p1 a_s) (fun o1 => bnd (F_X12_cellOf p2 a_s) (fun o3 => bnd (F_X12_far o1 o3) (fun o5 => some (if (0 : Int32) < (p3 - o5) then (p3 - o5) else (0 : Int32)))))
theorem dX12_shortsAt_0 : decode cX12_shortsAt 0 = .ok (.iconst 0, 1) := by decide +kernel
theorem dX12_shortsAt_1 : decode cX12_shortsAt 1 = .ok (.iload_n 3, 1) := by decide +kernel
theorem dX12_shortsAt_2 : decode cX12_shortsAt 2 = .ok (.aload_n 0, 1) := by decide +kernel
theorem dX12_shortsAt_3 : decode cX12_shortsAt 3 = .ok (.iload_n 1, 1) := by decide +kernel
theorem dX12_shortsAt_4 : decode cX12_shortsAt 4 = .ok (.invokevirtual 72, 3) := by decide +kernel
theorem dX12_shortsAt_7 : decode cX12_shortsAt 7 = .ok (.aload_n 0, 1) := by decide +kernel
theorem dX12_shortsAt_8 : decode cX12_shortsAt 8 = .ok (.iload_n 2, 1) := by decide +kernel
theorem dX12_shortsAt_9 : decode cX12_shortsAt 9 = .ok (.invokevirtual 72, 3) := by decide +kernel
theorem dX12_shortsAt_12 : decode cX12_shortsAt 12 = .ok (.invokestatic 145, 3) := by decide +kernel
theorem dX12_shortsAt_15 : decode cX12_shortsAt 15 = .ok (.isub, 1) := by decide +kernel
theorem dX12_shortsAt_16 : decode cX12_shortsAt 16 = .ok (.invokestatic 148, 3) := by decide +kernel
theorem dX12_shortsAt_19 : decode cX12_shortsAt 19 = .ok (.ireturn, 1) := by decide +kernel
theorem k_X12_shortsAt : cardV yX12_shortsAt (Cond.code yX12_shortsAt cX12_shortsAt 4 (some .int)) 3 := ⟨⟨qi_X12_shortsAt, qv_X12_shortsAt⟩, qc_X12_shortsAt, qn_X12, by decide +kernel, by decide +kernel, by decide +kernel⟩
set_option maxHeartbeats 4000000 in
set_option maxRecDepth 100000 in
theorem c_X12_shortsAt (l : Launch) (D : va_G) (g : Nat → ClassId) (q_this q_s q_before q_saved q_past q_steps q_goes q_line q_text q_orders : Nat) (p1 p2 p3 : Int32) (f_isSaved : Int32) (f_pastMany : Int32) (f_thrown : Int32) (f_reason : Int32) (f_detail : Int32) (f_isRefused : Int32) (f_goesMany : Int32) (f_roundSteps : Int32) (f_lineMany : Int32) (f_length : Int32) (f_at : Int32) (f_isWrong : Int32) (f_errorAt : Int32) (f_orderMany : Int32) (a_s : Nat → Int32) (o : Int32) (h : F_X12_shortsAt p1 p2 p3 a_s = some o) : MR l yX12_shortsAt (Cond.code yX12_shortsAt cX12_shortsAt 4 (some .int)) { frames := 2, cells := 0, slots := 0, locals := 61 } D g [.ref q_this, .int p1, .int p2, .int p3] [(q_this, .inr (12, [.ref q_s, .ref q_before, .ref q_saved, .int f_isSaved, .ref q_past, .int f_pastMany, .int f_thrown, .int f_reason, .int f_detail, .int f_isRefused, .ref q_steps, .ref q_goes, .int f_goesMany, .int f_roundSteps, .ref q_line, .int f_lineMany, .ref q_text, .int f_length, .int f_at, .int f_isWrong, .int f_errorAt, .ref q_orders, .int f_orderMany])), (q_s, .inl (g 0, 147, .inl a_s))] (some (.int o)) := by
  refine z_rd_start (by decide) (Nat.le_of_ble_eq_true rfl) ?_
  intro p e s m args below meth c Q X hr hQ
  refine z_lv (lv' := [(0, .ref q_this), (1, .int p1), (2, .int p2), (3, .int p3)]) rfl ?_
  refine z_iconst X (0 : Int32) dX12_shortsAt_0 (by decide) ?_
  refine z_iload_n X 3 dX12_shortsAt_1 rfl rfl ?_
  refine z_aload_n X 0 dX12_shortsAt_2 rfl rfl ?_
  refine z_iload_n X 1 dX12_shortsAt_3 rfl rfl ?_
  obtain ⟨o1, e2, h⟩ := bnd_p h
  refine z_rdV (rest := [.int p3, .int (0 : Int32)]) (q0 := 0) (ci := 12) X IR_P k_X12_cellOf (c_X12_cellOf l D g q_this q_s q_before q_saved q_past q_steps q_goes q_line q_text q_orders p1 f_isSaved f_pastMany f_thrown f_reason f_detail f_isRefused f_goesMany f_roundSteps f_lineMany f_length f_at f_isWrong f_errorAt f_orderMany a_s o1 e2) ql_X12_X12_cellOf dX12_shortsAt_4 [0, 1] rfl rfl rfl rfl rfl rfl ⟨Nat.le_of_ble_eq_true rfl, Nat.le_of_ble_eq_true rfl, rfl, rfl, Nat.le_of_ble_eq_true rfl, Nat.le_of_ble_eq_true rfl⟩ (Nat.le_of_ble_eq_true rfl) ?_
  refine z_aload_n X 0 dX12_shortsAt_7 rfl rfl ?_
  refine z_iload_n X 2 dX12_shortsAt_8 rfl rfl ?_
  obtain ⟨o3, e4, h⟩ := bnd_p h
  refine z_rdV (rest := [.int o1, .int p3, .int (0 : Int32)]) (q0 := 0) (ci := 12) X IR_P k_X12_cellOf (c_X12_cellOf l D g q_this q_s q_before q_saved q_past q_steps q_goes q_line q_text q_orders p2 f_isSaved f_pastMany f_thrown f_reason f_detail f_isRefused f_goesMany f_roundSteps f_lineMany f_length f_at f_isWrong f_errorAt f_orderMany a_s o3 e4) ql_X12_X12_cellOf dX12_shortsAt_9 [0, 1] rfl rfl rfl rfl rfl rfl ⟨Nat.le_of_ble_eq_true rfl, Nat.le_of_ble_eq_true rfl, rfl, rfl, Nat.le_of_ble_eq_true rfl, Nat.le_of_ble_eq_true rfl⟩ (Nat.le_of_ble_eq_true rfl) ?_
  obtain ⟨o5, e6, h⟩ := bnd_p h
  refine z_rdS (rest := [.int p3, .int (0 : Int32)]) X IR_P k_X12_far (c_X12_far l D g o1 o3 o5 e6) ql_X12_X12_far dX12_shortsAt_12 [] rfl rfl rfl ⟨Nat.le_of_ble_eq_true rfl, Nat.le_of_ble_eq_true rfl, rfl, rfl, Nat.le_of_ble_eq_true rfl, Nat.le_of_ble_eq_true rfl⟩ (Nat.le_of_ble_eq_true rfl) ?_
  refine z_isub X dX12_shortsAt_15 ?_
  refine z_mmax X ql_X12_mmax dX12_shortsAt_16 (Nat.le_of_ble_eq_true rfl) (Nat.le_of_ble_eq_true rfl) (Nat.le_of_ble_eq_true rfl) (Nat.le_of_ble_eq_true rfl) ?_
  exact z_iretR X hQ hr dX12_shortsAt_19 h

def F_X12_echoes (p1 : Int32) (p2 : Int32) (p3 : Int32) (p4 : Int32) (a_s : Nat → Int32) : Option (Int32) :=
  bnd (F_X12_areInHall p1 p2 a_s) (fun o1 => brn (o1 = 0) (some ((0 : Int32))) (bnd (F_X12_shortsAt p1 p2 p3 a_s) (fun o3 => brn ((o3 + p4) ≤ 0) (some ((0 : Int32))) (some ((1 : Int32))))))
theorem dX12_echoes_0 : decode cX12_echoes 0 = .ok (.aload_n 0, 1) := by decide +kernel
theorem dX12_echoes_1 : decode cX12_echoes 1 = .ok (.iload_n 1, 1) := by decide +kernel
theorem dX12_echoes_2 : decode cX12_echoes 2 = .ok (.iload_n 2, 1) := by decide +kernel
theorem dX12_echoes_3 : decode cX12_echoes 3 = .ok (.invokevirtual 151, 3) := by decide +kernel
theorem dX12_echoes_6 : decode cX12_echoes 6 = .ok (.ifCond .eq 20, 3) := by decide +kernel
theorem dX12_echoes_9 : decode cX12_echoes 9 = .ok (.aload_n 0, 1) := by decide +kernel
theorem dX12_echoes_10 : decode cX12_echoes 10 = .ok (.iload_n 1, 1) := by decide +kernel
theorem dX12_echoes_11 : decode cX12_echoes 11 = .ok (.iload_n 2, 1) := by decide +kernel
theorem dX12_echoes_12 : decode cX12_echoes 12 = .ok (.iload_n 3, 1) := by decide +kernel
theorem dX12_echoes_13 : decode cX12_echoes 13 = .ok (.invokevirtual 154, 3) := by decide +kernel
theorem dX12_echoes_16 : decode cX12_echoes 16 = .ok (.iload 4, 2) := by decide +kernel
theorem dX12_echoes_18 : decode cX12_echoes 18 = .ok (.iadd, 1) := by decide +kernel
theorem dX12_echoes_19 : decode cX12_echoes 19 = .ok (.ifCond .le 7, 3) := by decide +kernel
theorem dX12_echoes_22 : decode cX12_echoes 22 = .ok (.iconst 1, 1) := by decide +kernel
theorem dX12_echoes_23 : decode cX12_echoes 23 = .ok (.goto 4, 3) := by decide +kernel
theorem dX12_echoes_26 : decode cX12_echoes 26 = .ok (.iconst 0, 1) := by decide +kernel
theorem dX12_echoes_27 : decode cX12_echoes 27 = .ok (.ireturn, 1) := by decide +kernel
theorem k_X12_echoes : cardV yX12_echoes (Cond.code yX12_echoes cX12_echoes 5 (some .boolean)) 4 := ⟨⟨qi_X12_echoes, qv_X12_echoes⟩, qc_X12_echoes, qn_X12, by decide +kernel, by decide +kernel, by decide +kernel⟩
set_option maxHeartbeats 4000000 in
set_option maxRecDepth 100000 in
theorem c_X12_echoes (l : Launch) (D : va_G) (g : Nat → ClassId) (q_this q_s q_before q_saved q_past q_steps q_goes q_line q_text q_orders : Nat) (p1 p2 p3 p4 : Int32) (f_isSaved : Int32) (f_pastMany : Int32) (f_thrown : Int32) (f_reason : Int32) (f_detail : Int32) (f_isRefused : Int32) (f_goesMany : Int32) (f_roundSteps : Int32) (f_lineMany : Int32) (f_length : Int32) (f_at : Int32) (f_isWrong : Int32) (f_errorAt : Int32) (f_orderMany : Int32) (a_s : Nat → Int32) (o : Int32) (h : F_X12_echoes p1 p2 p3 p4 a_s = some o) : MR l yX12_echoes (Cond.code yX12_echoes cX12_echoes 5 (some .boolean)) { frames := 3, cells := 0, slots := 0, locals := 84 } D g [.ref q_this, .int p1, .int p2, .int p3, .int p4] [(q_this, .inr (12, [.ref q_s, .ref q_before, .ref q_saved, .int f_isSaved, .ref q_past, .int f_pastMany, .int f_thrown, .int f_reason, .int f_detail, .int f_isRefused, .ref q_steps, .ref q_goes, .int f_goesMany, .int f_roundSteps, .ref q_line, .int f_lineMany, .ref q_text, .int f_length, .int f_at, .int f_isWrong, .int f_errorAt, .ref q_orders, .int f_orderMany])), (q_s, .inl (g 0, 147, .inl a_s))] (some (.int o)) := by
  refine z_rd_start (by decide) (Nat.le_of_ble_eq_true rfl) ?_
  intro p e s m args below meth c Q X hr hQ
  refine z_lv (lv' := [(0, .ref q_this), (1, .int p1), (2, .int p2), (3, .int p3), (4, .int p4)]) rfl ?_
  refine z_aload_n X 0 dX12_echoes_0 rfl rfl ?_
  refine z_iload_n X 1 dX12_echoes_1 rfl rfl ?_
  refine z_iload_n X 2 dX12_echoes_2 rfl rfl ?_
  obtain ⟨o1, e2, h⟩ := bnd_p h
  refine z_rdV (rest := []) (q0 := 0) (ci := 12) X IR_P k_X12_areInHall (c_X12_areInHall l D g q_this q_s q_before q_saved q_past q_steps q_goes q_line q_text q_orders p1 p2 f_isSaved f_pastMany f_thrown f_reason f_detail f_isRefused f_goesMany f_roundSteps f_lineMany f_length f_at f_isWrong f_errorAt f_orderMany a_s o1 e2) ql_X12_X12_areInHall dX12_echoes_3 [0, 1] rfl rfl rfl rfl rfl rfl ⟨Nat.le_of_ble_eq_true rfl, Nat.le_of_ble_eq_true rfl, rfl, rfl, Nat.le_of_ble_eq_true rfl, Nat.le_of_ble_eq_true rfl⟩ (Nat.le_of_ble_eq_true rfl) ?_
  refine z_if_eq X 26 dX12_echoes_6 (by decide) h (fun _ h => ?_) (fun _ h => ?_)
  · refine z_iconst X (0 : Int32) dX12_echoes_26 (by decide) ?_
    exact z_zretR X hQ hr dX12_echoes_27 rfl h
  · refine z_aload_n X 0 dX12_echoes_9 rfl rfl ?_
    refine z_iload_n X 1 dX12_echoes_10 rfl rfl ?_
    refine z_iload_n X 2 dX12_echoes_11 rfl rfl ?_
    refine z_iload_n X 3 dX12_echoes_12 rfl rfl ?_
    obtain ⟨o3, e4, h⟩ := bnd_p h
    refine z_rdV (rest := []) (q0 := 0) (ci := 12) X IR_P k_X12_shortsAt (c_X12_shortsAt l D g q_this q_s q_before q_saved q_past q_steps q_goes q_line q_text q_orders p1 p2 p3 f_isSaved f_pastMany f_thrown f_reason f_detail f_isRefused f_goesMany f_roundSteps f_lineMany f_length f_at f_isWrong f_errorAt f_orderMany a_s o3 e4) ql_X12_X12_shortsAt dX12_echoes_13 [0, 1] rfl rfl rfl rfl rfl rfl ⟨Nat.le_of_ble_eq_true rfl, Nat.le_of_ble_eq_true rfl, rfl, rfl, Nat.le_of_ble_eq_true rfl, Nat.le_of_ble_eq_true rfl⟩ (Nat.le_of_ble_eq_true rfl) ?_
    refine z_iload X 4 dX12_echoes_16 rfl ?_
    refine z_iadd X dX12_echoes_18 ?_
    refine z_if_le X 26 dX12_echoes_19 (by decide) h (fun _ h => ?_) (fun _ h => ?_)
    · refine z_iconst X (0 : Int32) dX12_echoes_26 (by decide) ?_
      exact z_zretR X hQ hr dX12_echoes_27 rfl h
    · refine z_iconst X (1 : Int32) dX12_echoes_22 (by decide) ?_
      refine z_goto X 27 dX12_echoes_23 (by decide) ?_
      exact z_zretR X hQ hr dX12_echoes_27 rfl h

def J_X12_doRing_30 (p1 : Int32) (p2 : Int32) (p3 : Int32) (t0 : Int32) (f_thrown : Int32) (a_s : Nat → Int32) : Option (Int32 × Int32 × (Nat → Int32)) :=
  bnd (F_X12_fails t0 f_thrown) (fun o5 => some (o5.1, o5.2, a_s))

def J_X12_doRing_16 (p1 : Int32) (p2 : Int32) (p3 : Int32) (f_thrown : Int32) (a_s : Nat → Int32) : Option (Int32 × Int32 × (Nat → Int32)) :=
  bnd (F_X12_isHouse p1 a_s) (fun o3 => brn (o3 = 0) (J_X12_doRing_30 p1 p2 p3 (1 : Int32) f_thrown a_s) (J_X12_doRing_30 p1 p2 p3 (2 : Int32) f_thrown a_s))

def L_X12_doRing_119 (p1 : Int32) (p2 : Int32) (p3 : Int32) : Nat → Int32 → Int32 → (Int32) → (Nat → Int32) → Option (Int32 × Int32 × (Nat → Int32))
  | 0, _, _, _, _ => none
  | _n + 1, x4, x5, f_thrown, a_s =>
    grd (inb (2 : Int32) 147) (brn ((a_s (2 : Int32).toNatClampNeg) ≤ x5) (some (x4, f_thrown, a_s)) (bnd (F_X12_echoes p1 x5 p2 p3 a_s) (fun o11 => brn (o11 = 0) (L_X12_doRing_119 p1 p2 p3 _n x4 (x5 + 1) f_thrown a_s) (bnd (F_X12_shortsAt p1 x5 p2 a_s) (fun o13 => bnd (F_X12_hears x5 o13 p3 a_s) (fun o15 => grd (inb (6 : Int32) 147) (grd (inb (6 : Int32) 147) (L_X12_doRing_119 p1 p2 p3 _n x4 (x5 + 1) f_thrown (upd o15.2 (6 : Int32).toNatClampNeg ((o15.2 (6 : Int32).toNatClampNeg) + (1 : Int32)))))))))))

def J_X12_doRing_116 (p1 : Int32) (p2 : Int32) (p3 : Int32) (x4 : Int32) (f_thrown : Int32) (a_s : Nat → Int32) : Option (Int32 × Int32 × (Nat → Int32)) :=
  L_X12_doRing_119 p1 p2 p3 100 x4 (0 : Int32) f_thrown a_s

def L_X12_doRing_83 (p1 : Int32) (p2 : Int32) (p3 : Int32) : Nat → Int32 → Int32 → (Int32) → (Nat → Int32) → Option (Int32 × Int32 × (Nat → Int32))
  | 0, _, _, _, _ => none
  | _n + 1, x4, x5, f_thrown, a_s =>
    grd (inb (4 : Int32) 147) (brn ((a_s (4 : Int32).toNatClampNeg) ≤ x5) (J_X12_doRing_116 p1 p2 p3 x4 f_thrown a_s) (grd (inb (((139 : Int32) + ((2 : Int32) * x5)) + (1 : Int32)) 147) (L_X12_doRing_83 p1 p2 p3 _n x4 (x5 + 1) f_thrown (upd a_s (((139 : Int32) + ((2 : Int32) * x5)) + (1 : Int32)).toNatClampNeg ((-1) : Int32)))))

def F_X12_doRing (p1 : Int32) (p2 : Int32) (p3 : Int32) (f_thrown : Int32) (a_s : Nat → Int32) : Option (Int32 × Int32 × (Nat → Int32)) :=
  bnd (F_X12_isHouse p1 a_s) (fun o1 => brn (o1 = 0) (J_X12_doRing_16 p1 p2 p3 f_thrown a_s) (bnd (F_X12_areTones p2 p3) (fun o7 => brn (o7 = 0) (J_X12_doRing_16 p1 p2 p3 f_thrown a_s) (bnd (F_X12_hears p1 p2 p3 a_s) (fun o9 => grd (inb (5 : Int32) 147) (grd (inb (5 : Int32) 147) (brn (o9.1 = (3 : Int32)) (grd (inb (7 : Int32) 147) (grd (inb (7 : Int32) 147) (grd (inb (8 : Int32) 147) (L_X12_doRing_83 p1 p2 p3 100 o9.1 (0 : Int32) f_thrown (upd (upd (upd o9.2 (5 : Int32).toNatClampNeg ((o9.2 (5 : Int32).toNatClampNeg) + (1 : Int32))) (7 : Int32).toNatClampNeg (((upd o9.2 (5 : Int32).toNatClampNeg ((o9.2 (5 : Int32).toNatClampNeg) + (1 : Int32))) (7 : Int32).toNatClampNeg) + (1 : Int32))) (8 : Int32).toNatClampNeg (p1 + (1 : Int32))))))) (J_X12_doRing_116 p1 p2 p3 o9.1 f_thrown (upd o9.2 (5 : Int32).toNatClampNeg ((o9.2 (5 : Int32).toNatClampNeg) + (1 : Int32)))))))))))
theorem dX12_doRing_0 : decode cX12_doRing 0 = .ok (.aload_n 0, 1) := by decide +kernel
theorem dX12_doRing_1 : decode cX12_doRing 1 = .ok (.iload_n 1, 1) := by decide +kernel
theorem dX12_doRing_2 : decode cX12_doRing 2 = .ok (.invokevirtual 110, 3) := by decide +kernel
theorem dX12_doRing_5 : decode cX12_doRing 5 = .ok (.ifCond .eq 11, 3) := by decide +kernel
theorem dX12_doRing_8 : decode cX12_doRing 8 = .ok (.iload_n 2, 1) := by decide +kernel
theorem dX12_doRing_9 : decode cX12_doRing 9 = .ok (.iload_n 3, 1) := by decide +kernel
theorem dX12_doRing_10 : decode cX12_doRing 10 = .ok (.invokestatic 157, 3) := by decide +kernel
theorem dX12_doRing_13 : decode cX12_doRing 13 = .ok (.ifCond .ne 21, 3) := by decide +kernel
theorem dX12_doRing_16 : decode cX12_doRing 16 = .ok (.aload_n 0, 1) := by decide +kernel
theorem dX12_doRing_17 : decode cX12_doRing 17 = .ok (.aload_n 0, 1) := by decide +kernel
theorem dX12_doRing_18 : decode cX12_doRing 18 = .ok (.iload_n 1, 1) := by decide +kernel
theorem dX12_doRing_19 : decode cX12_doRing 19 = .ok (.invokevirtual 110, 3) := by decide +kernel
theorem dX12_doRing_22 : decode cX12_doRing 22 = .ok (.ifCond .eq 7, 3) := by decide +kernel
theorem dX12_doRing_25 : decode cX12_doRing 25 = .ok (.iconst 2, 1) := by decide +kernel
theorem dX12_doRing_26 : decode cX12_doRing 26 = .ok (.goto 4, 3) := by decide +kernel
theorem dX12_doRing_29 : decode cX12_doRing 29 = .ok (.iconst 1, 1) := by decide +kernel
theorem dX12_doRing_30 : decode cX12_doRing 30 = .ok (.invokevirtual 88, 3) := by decide +kernel
theorem dX12_doRing_33 : decode cX12_doRing 33 = .ok (.ireturn, 1) := by decide +kernel
theorem dX12_doRing_34 : decode cX12_doRing 34 = .ok (.aload_n 0, 1) := by decide +kernel
theorem dX12_doRing_35 : decode cX12_doRing 35 = .ok (.iload_n 1, 1) := by decide +kernel
theorem dX12_doRing_36 : decode cX12_doRing 36 = .ok (.iload_n 2, 1) := by decide +kernel
theorem dX12_doRing_37 : decode cX12_doRing 37 = .ok (.iload_n 3, 1) := by decide +kernel
theorem dX12_doRing_38 : decode cX12_doRing 38 = .ok (.invokevirtual 160, 3) := by decide +kernel
theorem dX12_doRing_41 : decode cX12_doRing 41 = .ok (.istore 4, 2) := by decide +kernel
theorem dX12_doRing_43 : decode cX12_doRing 43 = .ok (.aload_n 0, 1) := by decide +kernel
theorem dX12_doRing_44 : decode cX12_doRing 44 = .ok (.getfield 9, 3) := by decide +kernel
theorem dX12_doRing_47 : decode cX12_doRing 47 = .ok (.iconst 5, 1) := by decide +kernel
theorem dX12_doRing_48 : decode cX12_doRing 48 = .ok (.dup2, 1) := by decide +kernel
theorem dX12_doRing_49 : decode cX12_doRing 49 = .ok (.iaload, 1) := by decide +kernel
theorem dX12_doRing_50 : decode cX12_doRing 50 = .ok (.iconst 1, 1) := by decide +kernel
theorem dX12_doRing_51 : decode cX12_doRing 51 = .ok (.iadd, 1) := by decide +kernel
theorem dX12_doRing_52 : decode cX12_doRing 52 = .ok (.iastore, 1) := by decide +kernel
theorem dX12_doRing_53 : decode cX12_doRing 53 = .ok (.iload 4, 2) := by decide +kernel
theorem dX12_doRing_55 : decode cX12_doRing 55 = .ok (.iconst 3, 1) := by decide +kernel
theorem dX12_doRing_56 : decode cX12_doRing 56 = .ok (.if_icmp .ne 60, 3) := by decide +kernel
theorem dX12_doRing_59 : decode cX12_doRing 59 = .ok (.aload_n 0, 1) := by decide +kernel
theorem dX12_doRing_60 : decode cX12_doRing 60 = .ok (.getfield 9, 3) := by decide +kernel
theorem dX12_doRing_63 : decode cX12_doRing 63 = .ok (.bipush 7, 2) := by decide +kernel
theorem dX12_doRing_65 : decode cX12_doRing 65 = .ok (.dup2, 1) := by decide +kernel
theorem dX12_doRing_66 : decode cX12_doRing 66 = .ok (.iaload, 1) := by decide +kernel
theorem dX12_doRing_67 : decode cX12_doRing 67 = .ok (.iconst 1, 1) := by decide +kernel
theorem dX12_doRing_68 : decode cX12_doRing 68 = .ok (.iadd, 1) := by decide +kernel
theorem dX12_doRing_69 : decode cX12_doRing 69 = .ok (.iastore, 1) := by decide +kernel
theorem dX12_doRing_70 : decode cX12_doRing 70 = .ok (.aload_n 0, 1) := by decide +kernel
theorem dX12_doRing_71 : decode cX12_doRing 71 = .ok (.getfield 9, 3) := by decide +kernel
theorem dX12_doRing_74 : decode cX12_doRing 74 = .ok (.bipush 8, 2) := by decide +kernel
theorem dX12_doRing_76 : decode cX12_doRing 76 = .ok (.iload_n 1, 1) := by decide +kernel
theorem dX12_doRing_77 : decode cX12_doRing 77 = .ok (.iconst 1, 1) := by decide +kernel
theorem dX12_doRing_78 : decode cX12_doRing 78 = .ok (.iadd, 1) := by decide +kernel
theorem dX12_doRing_79 : decode cX12_doRing 79 = .ok (.iastore, 1) := by decide +kernel
theorem dX12_doRing_80 : decode cX12_doRing 80 = .ok (.iconst 0, 1) := by decide +kernel
theorem dX12_doRing_81 : decode cX12_doRing 81 = .ok (.istore 5, 2) := by decide +kernel
theorem dX12_doRing_83 : decode cX12_doRing 83 = .ok (.iload 5, 2) := by decide +kernel
theorem dX12_doRing_85 : decode cX12_doRing 85 = .ok (.aload_n 0, 1) := by decide +kernel
theorem dX12_doRing_86 : decode cX12_doRing 86 = .ok (.getfield 9, 3) := by decide +kernel
theorem dX12_doRing_89 : decode cX12_doRing 89 = .ok (.iconst 4, 1) := by decide +kernel
theorem dX12_doRing_90 : decode cX12_doRing 90 = .ok (.iaload, 1) := by decide +kernel
theorem dX12_doRing_91 : decode cX12_doRing 91 = .ok (.if_icmp .ge 25, 3) := by decide +kernel
theorem dX12_doRing_94 : decode cX12_doRing 94 = .ok (.aload_n 0, 1) := by decide +kernel
theorem dX12_doRing_95 : decode cX12_doRing 95 = .ok (.getfield 9, 3) := by decide +kernel
theorem dX12_doRing_98 : decode cX12_doRing 98 = .ok (.sipush 139, 3) := by decide +kernel
theorem dX12_doRing_101 : decode cX12_doRing 101 = .ok (.iconst 2, 1) := by decide +kernel
theorem dX12_doRing_102 : decode cX12_doRing 102 = .ok (.iload 5, 2) := by decide +kernel
theorem dX12_doRing_104 : decode cX12_doRing 104 = .ok (.imul, 1) := by decide +kernel
theorem dX12_doRing_105 : decode cX12_doRing 105 = .ok (.iadd, 1) := by decide +kernel
theorem dX12_doRing_106 : decode cX12_doRing 106 = .ok (.iconst 1, 1) := by decide +kernel
theorem dX12_doRing_107 : decode cX12_doRing 107 = .ok (.iadd, 1) := by decide +kernel
theorem dX12_doRing_108 : decode cX12_doRing 108 = .ok (.iconst (-1), 1) := by decide +kernel
theorem dX12_doRing_109 : decode cX12_doRing 109 = .ok (.iastore, 1) := by decide +kernel
theorem dX12_doRing_110 : decode cX12_doRing 110 = .ok (.iinc 5 1, 3) := by decide +kernel
theorem dX12_doRing_113 : decode cX12_doRing 113 = .ok (.goto (-30), 3) := by decide +kernel
theorem dX12_doRing_116 : decode cX12_doRing 116 = .ok (.iconst 0, 1) := by decide +kernel
theorem dX12_doRing_117 : decode cX12_doRing 117 = .ok (.istore 5, 2) := by decide +kernel
theorem dX12_doRing_119 : decode cX12_doRing 119 = .ok (.iload 5, 2) := by decide +kernel
theorem dX12_doRing_121 : decode cX12_doRing 121 = .ok (.aload_n 0, 1) := by decide +kernel
theorem dX12_doRing_122 : decode cX12_doRing 122 = .ok (.getfield 9, 3) := by decide +kernel
theorem dX12_doRing_125 : decode cX12_doRing 125 = .ok (.iconst 2, 1) := by decide +kernel
theorem dX12_doRing_126 : decode cX12_doRing 126 = .ok (.iaload, 1) := by decide +kernel
theorem dX12_doRing_127 : decode cX12_doRing 127 = .ok (.if_icmp .ge 49, 3) := by decide +kernel
theorem dX12_doRing_130 : decode cX12_doRing 130 = .ok (.aload_n 0, 1) := by decide +kernel
theorem dX12_doRing_131 : decode cX12_doRing 131 = .ok (.iload_n 1, 1) := by decide +kernel
theorem dX12_doRing_132 : decode cX12_doRing 132 = .ok (.iload 5, 2) := by decide +kernel
theorem dX12_doRing_134 : decode cX12_doRing 134 = .ok (.iload_n 2, 1) := by decide +kernel
theorem dX12_doRing_135 : decode cX12_doRing 135 = .ok (.iload_n 3, 1) := by decide +kernel
theorem dX12_doRing_136 : decode cX12_doRing 136 = .ok (.invokevirtual 163, 3) := by decide +kernel
theorem dX12_doRing_139 : decode cX12_doRing 139 = .ok (.ifCond .eq 31, 3) := by decide +kernel
theorem dX12_doRing_142 : decode cX12_doRing 142 = .ok (.aload_n 0, 1) := by decide +kernel
theorem dX12_doRing_143 : decode cX12_doRing 143 = .ok (.iload 5, 2) := by decide +kernel
theorem dX12_doRing_145 : decode cX12_doRing 145 = .ok (.aload_n 0, 1) := by decide +kernel
theorem dX12_doRing_146 : decode cX12_doRing 146 = .ok (.iload_n 1, 1) := by decide +kernel
theorem dX12_doRing_147 : decode cX12_doRing 147 = .ok (.iload 5, 2) := by decide +kernel
theorem dX12_doRing_149 : decode cX12_doRing 149 = .ok (.iload_n 2, 1) := by decide +kernel
theorem dX12_doRing_150 : decode cX12_doRing 150 = .ok (.invokevirtual 154, 3) := by decide +kernel
theorem dX12_doRing_153 : decode cX12_doRing 153 = .ok (.iload_n 3, 1) := by decide +kernel
theorem dX12_doRing_154 : decode cX12_doRing 154 = .ok (.invokevirtual 160, 3) := by decide +kernel
theorem dX12_doRing_157 : decode cX12_doRing 157 = .ok (.istore 6, 2) := by decide +kernel
theorem dX12_doRing_159 : decode cX12_doRing 159 = .ok (.aload_n 0, 1) := by decide +kernel
theorem dX12_doRing_160 : decode cX12_doRing 160 = .ok (.getfield 9, 3) := by decide +kernel
theorem dX12_doRing_163 : decode cX12_doRing 163 = .ok (.bipush 6, 2) := by decide +kernel
theorem dX12_doRing_165 : decode cX12_doRing 165 = .ok (.dup2, 1) := by decide +kernel
theorem dX12_doRing_166 : decode cX12_doRing 166 = .ok (.iaload, 1) := by decide +kernel
theorem dX12_doRing_167 : decode cX12_doRing 167 = .ok (.iconst 1, 1) := by decide +kernel
theorem dX12_doRing_168 : decode cX12_doRing 168 = .ok (.iadd, 1) := by decide +kernel
theorem dX12_doRing_169 : decode cX12_doRing 169 = .ok (.iastore, 1) := by decide +kernel
theorem dX12_doRing_170 : decode cX12_doRing 170 = .ok (.iinc 5 1, 3) := by decide +kernel
theorem dX12_doRing_173 : decode cX12_doRing 173 = .ok (.goto (-54), 3) := by decide +kernel
theorem dX12_doRing_176 : decode cX12_doRing 176 = .ok (.iload 4, 2) := by decide +kernel
theorem dX12_doRing_178 : decode cX12_doRing 178 = .ok (.ireturn, 1) := by decide +kernel
theorem k_X12_doRing : cardV yX12_doRing (Cond.code yX12_doRing cX12_doRing 7 (some .int)) 3 := ⟨⟨qi_X12_doRing, qv_X12_doRing⟩, qc_X12_doRing, qn_X12, by decide +kernel, by decide +kernel, by decide +kernel⟩
set_option maxHeartbeats 4000000 in
set_option maxRecDepth 100000 in
theorem c_X12_doRing (l : Launch) (D : va_G) (g : Nat → ClassId) (q_this q_s q_before q_saved q_past q_steps q_goes q_line q_text q_orders : Nat) (p1 p2 p3 : Int32) (f_isSaved : Int32) (f_pastMany : Int32) (f_thrown : Int32) (f_reason : Int32) (f_detail : Int32) (f_isRefused : Int32) (f_goesMany : Int32) (f_roundSteps : Int32) (f_lineMany : Int32) (f_length : Int32) (f_at : Int32) (f_isWrong : Int32) (f_errorAt : Int32) (f_orderMany : Int32) (a_s : Nat → Int32) (o : Int32 × Int32 × (Nat → Int32)) (h : F_X12_doRing p1 p2 p3 f_thrown a_s = some o) : MW l yX12_doRing (Cond.code yX12_doRing cX12_doRing 7 (some .int)) { frames := 5, cells := 0, slots := 0, locals := 112 } D g [.ref q_this, .int p1, .int p2, .int p3] [(q_this, .inr (12, [.ref q_s, .ref q_before, .ref q_saved, .int f_isSaved, .ref q_past, .int f_pastMany, .int f_thrown, .int f_reason, .int f_detail, .int f_isRefused, .ref q_steps, .ref q_goes, .int f_goesMany, .int f_roundSteps, .ref q_line, .int f_lineMany, .ref q_text, .int f_length, .int f_at, .int f_isWrong, .int f_errorAt, .ref q_orders, .int f_orderMany])), (q_s, .inl (g 0, 147, .inl a_s))] (some (.int o.1)) [(q_this, .inr (12, [.ref q_s, .ref q_before, .ref q_saved, .int f_isSaved, .ref q_past, .int f_pastMany, .int o.2.1, .int f_reason, .int f_detail, .int f_isRefused, .ref q_steps, .ref q_goes, .int f_goesMany, .int f_roundSteps, .ref q_line, .int f_lineMany, .ref q_text, .int f_length, .int f_at, .int f_isWrong, .int f_errorAt, .ref q_orders, .int f_orderMany])), (q_s, .inl (g 0, 147, .inl o.2.2))] := by
  refine z_wr_start (by decide) (Nat.le_of_ble_eq_true rfl) ?_
  intro p e s m args below meth c Q A X hr hQ hA
  refine z_lv (lv' := [(0, .ref q_this), (1, .int p1), (2, .int p2), (3, .int p3)]) rfl ?_
  have H30 : ∀ (t0 : Int32) (f_thrown : Int32) (a_s : Nat → Int32), J_X12_doRing_30 p1 p2 p3 t0 f_thrown a_s = some o → Z p l e { frames := 5, cells := 0, slots := 0, locals := 112 } s m args below meth c Q 7 0 0 (IW D A s [(q_this, .inr (12, [.ref q_s, .ref q_before, .ref q_saved, .int f_isSaved, .ref q_past, .int f_pastMany, .int f_thrown, .int f_reason, .int f_detail, .int f_isRefused, .ref q_steps, .ref q_goes, .int f_goesMany, .int f_roundSteps, .ref q_line, .int f_lineMany, .ref q_text, .int f_length, .int f_at, .int f_isWrong, .int f_errorAt, .ref q_orders, .int f_orderMany])), (q_s, .inl (g 0, 147, .inl a_s))]) 30 [] [.int t0, .ref q_this] := by
    intro t0 f_thrown a_s h
    obtain ⟨o5, e6, h⟩ := bnd_p h
    refine z_wrV (rest := []) (q0 := 0) (ci := 12) (ws' := [(q_this, .inr (12, [.ref q_s, .ref q_before, .ref q_saved, .int f_isSaved, .ref q_past, .int f_pastMany, .int o5.2, .int f_reason, .int f_detail, .int f_isRefused, .ref q_steps, .ref q_goes, .int f_goesMany, .int f_roundSteps, .ref q_line, .int f_lineMany, .ref q_text, .int f_length, .int f_at, .int f_isWrong, .int f_errorAt, .ref q_orders, .int f_orderMany])), (q_s, .inl (g 0, 147, .inl a_s))]) (wr := [(q_s, .inl (g 0, 147, .inl a_s))]) (as := [q_this, q_s]) X k_X12_fails (c_X12_fails l D g q_this q_s q_before q_saved q_past q_steps q_goes q_line q_text q_orders t0 f_isSaved f_pastMany f_thrown f_reason f_detail f_isRefused f_goesMany f_roundSteps f_lineMany f_length f_at f_isWrong f_errorAt f_orderMany o5 e6) ql_X12_X12_fails dX12_doRing_30 [0] [1] ⟨rfl, rfl, rfl, rfl, rfl, rfl, rfl, rfl⟩ rfl rfl rfl rfl rfl ⟨Nat.le_of_ble_eq_true rfl, Nat.le_of_ble_eq_true rfl, rfl, rfl, Nat.le_of_ble_eq_true rfl, Nat.le_of_ble_eq_true rfl⟩ (Nat.le_of_ble_eq_true rfl) ?_
    cases h
    exact z_iretW X hQ hA hr dX12_doRing_33
  have H16 : ∀ (f_thrown : Int32) (a_s : Nat → Int32), J_X12_doRing_16 p1 p2 p3 f_thrown a_s = some o → Z p l e { frames := 5, cells := 0, slots := 0, locals := 112 } s m args below meth c Q 7 0 0 (IW D A s [(q_this, .inr (12, [.ref q_s, .ref q_before, .ref q_saved, .int f_isSaved, .ref q_past, .int f_pastMany, .int f_thrown, .int f_reason, .int f_detail, .int f_isRefused, .ref q_steps, .ref q_goes, .int f_goesMany, .int f_roundSteps, .ref q_line, .int f_lineMany, .ref q_text, .int f_length, .int f_at, .int f_isWrong, .int f_errorAt, .ref q_orders, .int f_orderMany])), (q_s, .inl (g 0, 147, .inl a_s))]) 16 [(0, .ref q_this), (1, .int p1)] [] := by
    intro f_thrown a_s h
    refine z_aload_n X 0 dX12_doRing_16 rfl rfl ?_
    refine z_aload_n X 0 dX12_doRing_17 rfl rfl ?_
    refine z_iload_n X 1 dX12_doRing_18 rfl rfl ?_
    obtain ⟨o3, e4, h⟩ := bnd_p h
    refine z_rdV (rest := [.ref q_this]) (q0 := 0) (ci := 12) X IW_P k_X12_isHouse (c_X12_isHouse l D g q_this q_s q_before q_saved q_past q_steps q_goes q_line q_text q_orders p1 f_isSaved f_pastMany f_thrown f_reason f_detail f_isRefused f_goesMany f_roundSteps f_lineMany f_length f_at f_isWrong f_errorAt f_orderMany a_s o3 e4) ql_X12_X12_isHouse dX12_doRing_19 [0, 1] rfl rfl rfl rfl rfl rfl ⟨Nat.le_of_ble_eq_true rfl, Nat.le_of_ble_eq_true rfl, rfl, rfl, Nat.le_of_ble_eq_true rfl, Nat.le_of_ble_eq_true rfl⟩ (Nat.le_of_ble_eq_true rfl) ?_
    refine z_if_eq X 29 dX12_doRing_22 (by decide) h (fun _ h => ?_) (fun _ h => ?_)
    · refine z_iconst X (1 : Int32) dX12_doRing_29 (by decide) ?_
      refine z_sub (lv' := []) [] rfl ?_
      exact H30 (1 : Int32) f_thrown a_s h
    · refine z_iconst X (2 : Int32) dX12_doRing_25 (by decide) ?_
      refine z_goto X 30 dX12_doRing_26 (by decide) ?_
      refine z_sub (lv' := []) [] rfl ?_
      exact H30 (2 : Int32) f_thrown a_s h
  have H119 : ∀ (n : Nat) (x4 : Int32) (x5 : Int32) (f_thrown : Int32) (a_s : Nat → Int32), L_X12_doRing_119 p1 p2 p3  n x4 x5 f_thrown a_s = some o → Z p l e { frames := 5, cells := 0, slots := 0, locals := 112 } s m args below meth c Q 7 0 0 (IW D A s [(q_this, .inr (12, [.ref q_s, .ref q_before, .ref q_saved, .int f_isSaved, .ref q_past, .int f_pastMany, .int f_thrown, .int f_reason, .int f_detail, .int f_isRefused, .ref q_steps, .ref q_goes, .int f_goesMany, .int f_roundSteps, .ref q_line, .int f_lineMany, .ref q_text, .int f_length, .int f_at, .int f_isWrong, .int f_errorAt, .ref q_orders, .int f_orderMany])), (q_s, .inl (g 0, 147, .inl a_s))]) 119 [(0, .ref q_this), (1, .int p1), (2, .int p2), (3, .int p3), (4, .int x4), (5, .int x5)] [] := by
    intro n
    induction n with
    | zero => intro x4 x5 f_thrown a_s h; cases h
    | succ n119 ih119 =>
      intro x4 x5 f_thrown a_s h
      refine z_iload X 5 dX12_doRing_119 rfl ?_
      refine z_aload_n X 0 dX12_doRing_121 rfl rfl ?_
      refine z_get (q0 := 0) (k := 0) (ci := 12) X IW_P iw_X12 rfl qf_X12_X12_s (by decide) dX12_doRing_122 rfl rfl ?_
      refine z_iconst X (2 : Int32) dX12_doRing_125 (by decide) ?_
      refine z_iald (q0 := 1) X IW_P dX12_doRing_126 rfl h (fun h => ?_)
      refine z_icmp_ge X 176 dX12_doRing_127 (by decide) h (fun _ h => ?_) (fun _ h => ?_)
      · refine z_iload X 4 dX12_doRing_176 rfl ?_
        cases h
        exact z_iretW X hQ hA hr dX12_doRing_178
      · refine z_aload_n X 0 dX12_doRing_130 rfl rfl ?_
        refine z_iload_n X 1 dX12_doRing_131 rfl rfl ?_
        refine z_iload X 5 dX12_doRing_132 rfl ?_
        refine z_iload_n X 2 dX12_doRing_134 rfl rfl ?_
        refine z_iload_n X 3 dX12_doRing_135 rfl rfl ?_
        obtain ⟨o11, e12, h⟩ := bnd_p h
        refine z_rdV (rest := []) (q0 := 0) (ci := 12) X IW_P k_X12_echoes (c_X12_echoes l D g q_this q_s q_before q_saved q_past q_steps q_goes q_line q_text q_orders p1 x5 p2 p3 f_isSaved f_pastMany f_thrown f_reason f_detail f_isRefused f_goesMany f_roundSteps f_lineMany f_length f_at f_isWrong f_errorAt f_orderMany a_s o11 e12) ql_X12_X12_echoes dX12_doRing_136 [0, 1] rfl rfl rfl rfl rfl rfl ⟨Nat.le_of_ble_eq_true rfl, Nat.le_of_ble_eq_true rfl, rfl, rfl, Nat.le_of_ble_eq_true rfl, Nat.le_of_ble_eq_true rfl⟩ (Nat.le_of_ble_eq_true rfl) ?_
        refine z_if_eq X 170 dX12_doRing_139 (by decide) h (fun _ h => ?_) (fun _ h => ?_)
        · refine z_iinc X 5 [(5, .int (x5 + 1)), (0, .ref q_this), (1, .int p1), (2, .int p2), (3, .int p3), (4, .int x4)] dX12_doRing_170 rfl rfl (by decide) rfl ?_
          refine z_goto X 119 dX12_doRing_173 (by decide) ?_
          refine z_sub (lv' := [(0, .ref q_this), (1, .int p1), (2, .int p2), (3, .int p3), (4, .int x4), (5, .int (x5 + 1))]) [1, 2, 3, 4, 5, 0] rfl ?_
          exact ih119 x4 (x5 + 1) f_thrown a_s h
        · refine z_aload_n X 0 dX12_doRing_142 rfl rfl ?_
          refine z_iload X 5 dX12_doRing_143 rfl ?_
          refine z_aload_n X 0 dX12_doRing_145 rfl rfl ?_
          refine z_iload_n X 1 dX12_doRing_146 rfl rfl ?_
          refine z_iload X 5 dX12_doRing_147 rfl ?_
          refine z_iload_n X 2 dX12_doRing_149 rfl rfl ?_
          obtain ⟨o13, e14, h⟩ := bnd_p h
          refine z_rdV (rest := [.int x5, .ref q_this]) (q0 := 0) (ci := 12) X IW_P k_X12_shortsAt (c_X12_shortsAt l D g q_this q_s q_before q_saved q_past q_steps q_goes q_line q_text q_orders p1 x5 p2 f_isSaved f_pastMany f_thrown f_reason f_detail f_isRefused f_goesMany f_roundSteps f_lineMany f_length f_at f_isWrong f_errorAt f_orderMany a_s o13 e14) ql_X12_X12_shortsAt dX12_doRing_150 [0, 1] rfl rfl rfl rfl rfl rfl ⟨Nat.le_of_ble_eq_true rfl, Nat.le_of_ble_eq_true rfl, rfl, rfl, Nat.le_of_ble_eq_true rfl, Nat.le_of_ble_eq_true rfl⟩ (Nat.le_of_ble_eq_true rfl) ?_
          refine z_iload_n X 3 dX12_doRing_153 rfl rfl ?_
          obtain ⟨o15, e16, h⟩ := bnd_p h
          refine z_wrV (rest := []) (q0 := 0) (ci := 12) (ws' := [(q_this, .inr (12, [.ref q_s, .ref q_before, .ref q_saved, .int f_isSaved, .ref q_past, .int f_pastMany, .int f_thrown, .int f_reason, .int f_detail, .int f_isRefused, .ref q_steps, .ref q_goes, .int f_goesMany, .int f_roundSteps, .ref q_line, .int f_lineMany, .ref q_text, .int f_length, .int f_at, .int f_isWrong, .int f_errorAt, .ref q_orders, .int f_orderMany])), (q_s, .inl (g 0, 147, .inl o15.2))]) (wr := []) (as := [q_this, q_s]) X k_X12_hears (c_X12_hears l D g q_this q_s q_before q_saved q_past q_steps q_goes q_line q_text q_orders x5 o13 p3 f_isSaved f_pastMany f_thrown f_reason f_detail f_isRefused f_goesMany f_roundSteps f_lineMany f_length f_at f_isWrong f_errorAt f_orderMany a_s o15 e16) ql_X12_X12_hears dX12_doRing_154 [0, 1] [] ⟨rfl, rfl, rfl, rfl, rfl, rfl, rfl, rfl⟩ rfl rfl rfl rfl rfl ⟨Nat.le_of_ble_eq_true rfl, Nat.le_of_ble_eq_true rfl, rfl, rfl, Nat.le_of_ble_eq_true rfl, Nat.le_of_ble_eq_true rfl⟩ (Nat.le_of_ble_eq_true rfl) ?_
          refine z_istore X [(6, .int o15.1), (0, .ref q_this), (1, .int p1), (2, .int p2), (3, .int p3), (4, .int x4), (5, .int x5)] dX12_doRing_157 (by decide) rfl ?_
          refine z_aload_n X 1 dX12_doRing_159 rfl rfl ?_
          refine z_get (q0 := 0) (k := 0) (ci := 12) X IW_P iw_X12 rfl qf_X12_X12_s (by decide) dX12_doRing_160 rfl rfl ?_
          refine z_bipush X (6 : Int32) dX12_doRing_163 (by decide) ?_
          refine z_dup2 X dX12_doRing_165 rfl rfl ?_
          refine z_iald (q0 := 1) X IW_P dX12_doRing_166 rfl h (fun h => ?_)
          refine z_iconst X (1 : Int32) dX12_doRing_167 (by decide) ?_
          refine z_iadd X dX12_doRing_168 ?_
          refine z_iast (q0 := 1) (ws' := [(q_this, .inr (12, [.ref q_s, .ref q_before, .ref q_saved, .int f_isSaved, .ref q_past, .int f_pastMany, .int f_thrown, .int f_reason, .int f_detail, .int f_isRefused, .ref q_steps, .ref q_goes, .int f_goesMany, .int f_roundSteps, .ref q_line, .int f_lineMany, .ref q_text, .int f_length, .int f_at, .int f_isWrong, .int f_errorAt, .ref q_orders, .int f_orderMany])), (q_s, .inl (g 0, 147, .inl (upd o15.2 (6 : Int32).toNatClampNeg ((o15.2 (6 : Int32).toNatClampNeg) + (1 : Int32)))))]) X dX12_doRing_169 rfl h rfl (fun h => ?_)
          refine z_iinc X 6 [(5, .int (x5 + 1)), (6, .int o15.1), (0, .ref q_this), (1, .int p1), (2, .int p2), (3, .int p3), (4, .int x4)] dX12_doRing_170 rfl rfl (by decide) rfl ?_
          refine z_goto X 119 dX12_doRing_173 (by decide) ?_
          refine z_sub (lv' := [(0, .ref q_this), (1, .int p1), (2, .int p2), (3, .int p3), (4, .int x4), (5, .int (x5 + 1))]) [2, 3, 4, 5, 6, 0] rfl ?_
          exact ih119 x4 (x5 + 1) f_thrown (upd o15.2 (6 : Int32).toNatClampNeg ((o15.2 (6 : Int32).toNatClampNeg) + (1 : Int32))) h
  have H116 : ∀ (x4 : Int32) (f_thrown : Int32) (a_s : Nat → Int32), J_X12_doRing_116 p1 p2 p3 x4 f_thrown a_s = some o → Z p l e { frames := 5, cells := 0, slots := 0, locals := 112 } s m args below meth c Q 7 0 0 (IW D A s [(q_this, .inr (12, [.ref q_s, .ref q_before, .ref q_saved, .int f_isSaved, .ref q_past, .int f_pastMany, .int f_thrown, .int f_reason, .int f_detail, .int f_isRefused, .ref q_steps, .ref q_goes, .int f_goesMany, .int f_roundSteps, .ref q_line, .int f_lineMany, .ref q_text, .int f_length, .int f_at, .int f_isWrong, .int f_errorAt, .ref q_orders, .int f_orderMany])), (q_s, .inl (g 0, 147, .inl a_s))]) 116 [(0, .ref q_this), (1, .int p1), (2, .int p2), (3, .int p3), (4, .int x4)] [] := by
    intro x4 f_thrown a_s h
    refine z_iconst X (0 : Int32) dX12_doRing_116 (by decide) ?_
    refine z_istore X [(5, .int (0 : Int32)), (0, .ref q_this), (1, .int p1), (2, .int p2), (3, .int p3), (4, .int x4)] dX12_doRing_117 (by decide) rfl ?_
    refine z_sub (lv' := [(0, .ref q_this), (1, .int p1), (2, .int p2), (3, .int p3), (4, .int x4), (5, .int (0 : Int32))]) [1, 2, 3, 4, 5, 0] rfl ?_
    exact H119 100 x4 (0 : Int32) f_thrown a_s h
  have H83 : ∀ (n : Nat) (x4 : Int32) (x5 : Int32) (f_thrown : Int32) (a_s : Nat → Int32), L_X12_doRing_83 p1 p2 p3  n x4 x5 f_thrown a_s = some o → Z p l e { frames := 5, cells := 0, slots := 0, locals := 112 } s m args below meth c Q 7 0 0 (IW D A s [(q_this, .inr (12, [.ref q_s, .ref q_before, .ref q_saved, .int f_isSaved, .ref q_past, .int f_pastMany, .int f_thrown, .int f_reason, .int f_detail, .int f_isRefused, .ref q_steps, .ref q_goes, .int f_goesMany, .int f_roundSteps, .ref q_line, .int f_lineMany, .ref q_text, .int f_length, .int f_at, .int f_isWrong, .int f_errorAt, .ref q_orders, .int f_orderMany])), (q_s, .inl (g 0, 147, .inl a_s))]) 83 [(0, .ref q_this), (1, .int p1), (2, .int p2), (3, .int p3), (4, .int x4), (5, .int x5)] [] := by
    intro n
    induction n with
    | zero => intro x4 x5 f_thrown a_s h; cases h
    | succ n83 ih83 =>
      intro x4 x5 f_thrown a_s h
      refine z_iload X 5 dX12_doRing_83 rfl ?_
      refine z_aload_n X 0 dX12_doRing_85 rfl rfl ?_
      refine z_get (q0 := 0) (k := 0) (ci := 12) X IW_P iw_X12 rfl qf_X12_X12_s (by decide) dX12_doRing_86 rfl rfl ?_
      refine z_iconst X (4 : Int32) dX12_doRing_89 (by decide) ?_
      refine z_iald (q0 := 1) X IW_P dX12_doRing_90 rfl h (fun h => ?_)
      refine z_icmp_ge X 116 dX12_doRing_91 (by decide) h (fun _ h => ?_) (fun _ h => ?_)
      · refine z_sub (lv' := [(0, .ref q_this), (1, .int p1), (2, .int p2), (3, .int p3), (4, .int x4)]) [0, 1, 2, 3, 4] rfl ?_
        exact H116 x4 f_thrown a_s h
      · refine z_aload_n X 0 dX12_doRing_94 rfl rfl ?_
        refine z_get (q0 := 0) (k := 0) (ci := 12) X IW_P iw_X12 rfl qf_X12_X12_s (by decide) dX12_doRing_95 rfl rfl ?_
        refine z_sipush X (139 : Int32) dX12_doRing_98 (by decide) ?_
        refine z_iconst X (2 : Int32) dX12_doRing_101 (by decide) ?_
        refine z_iload X 5 dX12_doRing_102 rfl ?_
        refine z_imul X dX12_doRing_104 ?_
        refine z_iadd X dX12_doRing_105 ?_
        refine z_iconst X (1 : Int32) dX12_doRing_106 (by decide) ?_
        refine z_iadd X dX12_doRing_107 ?_
        refine z_iconst X ((-1) : Int32) dX12_doRing_108 (by decide) ?_
        refine z_iast (q0 := 1) (ws' := [(q_this, .inr (12, [.ref q_s, .ref q_before, .ref q_saved, .int f_isSaved, .ref q_past, .int f_pastMany, .int f_thrown, .int f_reason, .int f_detail, .int f_isRefused, .ref q_steps, .ref q_goes, .int f_goesMany, .int f_roundSteps, .ref q_line, .int f_lineMany, .ref q_text, .int f_length, .int f_at, .int f_isWrong, .int f_errorAt, .ref q_orders, .int f_orderMany])), (q_s, .inl (g 0, 147, .inl (upd a_s (((139 : Int32) + ((2 : Int32) * x5)) + (1 : Int32)).toNatClampNeg ((-1) : Int32))))]) X dX12_doRing_109 rfl h rfl (fun h => ?_)
        refine z_iinc X 5 [(5, .int (x5 + 1)), (0, .ref q_this), (1, .int p1), (2, .int p2), (3, .int p3), (4, .int x4)] dX12_doRing_110 rfl rfl (by decide) rfl ?_
        refine z_goto X 83 dX12_doRing_113 (by decide) ?_
        refine z_sub (lv' := [(0, .ref q_this), (1, .int p1), (2, .int p2), (3, .int p3), (4, .int x4), (5, .int (x5 + 1))]) [1, 2, 3, 4, 5, 0] rfl ?_
        exact ih83 x4 (x5 + 1) f_thrown (upd a_s (((139 : Int32) + ((2 : Int32) * x5)) + (1 : Int32)).toNatClampNeg ((-1) : Int32)) h
  refine z_aload_n X 0 dX12_doRing_0 rfl rfl ?_
  refine z_iload_n X 1 dX12_doRing_1 rfl rfl ?_
  obtain ⟨o1, e2, h⟩ := bnd_p h
  refine z_rdV (rest := []) (q0 := 0) (ci := 12) X IW_P k_X12_isHouse (c_X12_isHouse l D g q_this q_s q_before q_saved q_past q_steps q_goes q_line q_text q_orders p1 f_isSaved f_pastMany f_thrown f_reason f_detail f_isRefused f_goesMany f_roundSteps f_lineMany f_length f_at f_isWrong f_errorAt f_orderMany a_s o1 e2) ql_X12_X12_isHouse dX12_doRing_2 [0, 1] rfl rfl rfl rfl rfl rfl ⟨Nat.le_of_ble_eq_true rfl, Nat.le_of_ble_eq_true rfl, rfl, rfl, Nat.le_of_ble_eq_true rfl, Nat.le_of_ble_eq_true rfl⟩ (Nat.le_of_ble_eq_true rfl) ?_
  refine z_if_eq X 16 dX12_doRing_5 (by decide) h (fun _ h => ?_) (fun _ h => ?_)
  · refine z_sub (lv' := [(0, .ref q_this), (1, .int p1)]) [0, 1] rfl ?_
    exact H16 f_thrown a_s h
  · refine z_iload_n X 2 dX12_doRing_8 rfl rfl ?_
    refine z_iload_n X 3 dX12_doRing_9 rfl rfl ?_
    obtain ⟨o7, e8, h⟩ := bnd_p h
    refine z_rdS (rest := []) X IW_P k_X12_areTones (c_X12_areTones l D g p2 p3 o7 e8) ql_X12_X12_areTones dX12_doRing_10 [] rfl rfl rfl ⟨Nat.le_of_ble_eq_true rfl, Nat.le_of_ble_eq_true rfl, rfl, rfl, Nat.le_of_ble_eq_true rfl, Nat.le_of_ble_eq_true rfl⟩ (Nat.le_of_ble_eq_true rfl) ?_
    refine z_if_ne X 34 dX12_doRing_13 (by decide) h (fun _ h => ?_) (fun _ h => ?_)
    · refine z_sub (lv' := [(0, .ref q_this), (1, .int p1)]) [0, 1] rfl ?_
      exact H16 f_thrown a_s h
    · refine z_aload_n X 0 dX12_doRing_34 rfl rfl ?_
      refine z_iload_n X 1 dX12_doRing_35 rfl rfl ?_
      refine z_iload_n X 2 dX12_doRing_36 rfl rfl ?_
      refine z_iload_n X 3 dX12_doRing_37 rfl rfl ?_
      obtain ⟨o9, e10, h⟩ := bnd_p h
      refine z_wrV (rest := []) (q0 := 0) (ci := 12) (ws' := [(q_this, .inr (12, [.ref q_s, .ref q_before, .ref q_saved, .int f_isSaved, .ref q_past, .int f_pastMany, .int f_thrown, .int f_reason, .int f_detail, .int f_isRefused, .ref q_steps, .ref q_goes, .int f_goesMany, .int f_roundSteps, .ref q_line, .int f_lineMany, .ref q_text, .int f_length, .int f_at, .int f_isWrong, .int f_errorAt, .ref q_orders, .int f_orderMany])), (q_s, .inl (g 0, 147, .inl o9.2))]) (wr := []) (as := [q_this, q_s]) X k_X12_hears (c_X12_hears l D g q_this q_s q_before q_saved q_past q_steps q_goes q_line q_text q_orders p1 p2 p3 f_isSaved f_pastMany f_thrown f_reason f_detail f_isRefused f_goesMany f_roundSteps f_lineMany f_length f_at f_isWrong f_errorAt f_orderMany a_s o9 e10) ql_X12_X12_hears dX12_doRing_38 [0, 1] [] ⟨rfl, rfl, rfl, rfl, rfl, rfl, rfl, rfl⟩ rfl rfl rfl rfl rfl ⟨Nat.le_of_ble_eq_true rfl, Nat.le_of_ble_eq_true rfl, rfl, rfl, Nat.le_of_ble_eq_true rfl, Nat.le_of_ble_eq_true rfl⟩ (Nat.le_of_ble_eq_true rfl) ?_
      refine z_istore X [(4, .int o9.1), (0, .ref q_this), (1, .int p1), (2, .int p2), (3, .int p3)] dX12_doRing_41 (by decide) rfl ?_
      refine z_aload_n X 1 dX12_doRing_43 rfl rfl ?_
      refine z_get (q0 := 0) (k := 0) (ci := 12) X IW_P iw_X12 rfl qf_X12_X12_s (by decide) dX12_doRing_44 rfl rfl ?_
      refine z_iconst X (5 : Int32) dX12_doRing_47 (by decide) ?_
      refine z_dup2 X dX12_doRing_48 rfl rfl ?_
      refine z_iald (q0 := 1) X IW_P dX12_doRing_49 rfl h (fun h => ?_)
      refine z_iconst X (1 : Int32) dX12_doRing_50 (by decide) ?_
      refine z_iadd X dX12_doRing_51 ?_
      refine z_iast (q0 := 1) (ws' := [(q_this, .inr (12, [.ref q_s, .ref q_before, .ref q_saved, .int f_isSaved, .ref q_past, .int f_pastMany, .int f_thrown, .int f_reason, .int f_detail, .int f_isRefused, .ref q_steps, .ref q_goes, .int f_goesMany, .int f_roundSteps, .ref q_line, .int f_lineMany, .ref q_text, .int f_length, .int f_at, .int f_isWrong, .int f_errorAt, .ref q_orders, .int f_orderMany])), (q_s, .inl (g 0, 147, .inl (upd o9.2 (5 : Int32).toNatClampNeg ((o9.2 (5 : Int32).toNatClampNeg) + (1 : Int32)))))]) X dX12_doRing_52 rfl h rfl (fun h => ?_)
      refine z_iload X 0 dX12_doRing_53 rfl ?_
      refine z_iconst X (3 : Int32) dX12_doRing_55 (by decide) ?_
      refine z_icmp_ne X 116 dX12_doRing_56 (by decide) h (fun _ h => ?_) (fun _ h => ?_)
      · refine z_aload_n X 1 dX12_doRing_59 rfl rfl ?_
        refine z_get (q0 := 0) (k := 0) (ci := 12) X IW_P iw_X12 rfl qf_X12_X12_s (by decide) dX12_doRing_60 rfl rfl ?_
        refine z_bipush X (7 : Int32) dX12_doRing_63 (by decide) ?_
        refine z_dup2 X dX12_doRing_65 rfl rfl ?_
        refine z_iald (q0 := 1) X IW_P dX12_doRing_66 rfl h (fun h => ?_)
        refine z_iconst X (1 : Int32) dX12_doRing_67 (by decide) ?_
        refine z_iadd X dX12_doRing_68 ?_
        refine z_iast (q0 := 1) (ws' := [(q_this, .inr (12, [.ref q_s, .ref q_before, .ref q_saved, .int f_isSaved, .ref q_past, .int f_pastMany, .int f_thrown, .int f_reason, .int f_detail, .int f_isRefused, .ref q_steps, .ref q_goes, .int f_goesMany, .int f_roundSteps, .ref q_line, .int f_lineMany, .ref q_text, .int f_length, .int f_at, .int f_isWrong, .int f_errorAt, .ref q_orders, .int f_orderMany])), (q_s, .inl (g 0, 147, .inl (upd (upd o9.2 (5 : Int32).toNatClampNeg ((o9.2 (5 : Int32).toNatClampNeg) + (1 : Int32))) (7 : Int32).toNatClampNeg (((upd o9.2 (5 : Int32).toNatClampNeg ((o9.2 (5 : Int32).toNatClampNeg) + (1 : Int32))) (7 : Int32).toNatClampNeg) + (1 : Int32)))))]) X dX12_doRing_69 rfl h rfl (fun h => ?_)
        refine z_aload_n X 1 dX12_doRing_70 rfl rfl ?_
        refine z_get (q0 := 0) (k := 0) (ci := 12) X IW_P iw_X12 rfl qf_X12_X12_s (by decide) dX12_doRing_71 rfl rfl ?_
        refine z_bipush X (8 : Int32) dX12_doRing_74 (by decide) ?_
        refine z_iload_n X 2 dX12_doRing_76 rfl rfl ?_
        refine z_iconst X (1 : Int32) dX12_doRing_77 (by decide) ?_
        refine z_iadd X dX12_doRing_78 ?_
        refine z_iast (q0 := 1) (ws' := [(q_this, .inr (12, [.ref q_s, .ref q_before, .ref q_saved, .int f_isSaved, .ref q_past, .int f_pastMany, .int f_thrown, .int f_reason, .int f_detail, .int f_isRefused, .ref q_steps, .ref q_goes, .int f_goesMany, .int f_roundSteps, .ref q_line, .int f_lineMany, .ref q_text, .int f_length, .int f_at, .int f_isWrong, .int f_errorAt, .ref q_orders, .int f_orderMany])), (q_s, .inl (g 0, 147, .inl (upd (upd (upd o9.2 (5 : Int32).toNatClampNeg ((o9.2 (5 : Int32).toNatClampNeg) + (1 : Int32))) (7 : Int32).toNatClampNeg (((upd o9.2 (5 : Int32).toNatClampNeg ((o9.2 (5 : Int32).toNatClampNeg) + (1 : Int32))) (7 : Int32).toNatClampNeg) + (1 : Int32))) (8 : Int32).toNatClampNeg (p1 + (1 : Int32)))))]) X dX12_doRing_79 rfl h rfl (fun h => ?_)
        refine z_iconst X (0 : Int32) dX12_doRing_80 (by decide) ?_
        refine z_istore X [(5, .int (0 : Int32)), (4, .int o9.1), (0, .ref q_this), (1, .int p1), (2, .int p2), (3, .int p3)] dX12_doRing_81 (by decide) rfl ?_
        refine z_sub (lv' := [(0, .ref q_this), (1, .int p1), (2, .int p2), (3, .int p3), (4, .int o9.1), (5, .int (0 : Int32))]) [2, 3, 4, 5, 1, 0] rfl ?_
        exact H83 100 o9.1 (0 : Int32) f_thrown (upd (upd (upd o9.2 (5 : Int32).toNatClampNeg ((o9.2 (5 : Int32).toNatClampNeg) + (1 : Int32))) (7 : Int32).toNatClampNeg (((upd o9.2 (5 : Int32).toNatClampNeg ((o9.2 (5 : Int32).toNatClampNeg) + (1 : Int32))) (7 : Int32).toNatClampNeg) + (1 : Int32))) (8 : Int32).toNatClampNeg (p1 + (1 : Int32))) h
      · refine z_sub (lv' := [(0, .ref q_this), (1, .int p1), (2, .int p2), (3, .int p3), (4, .int o9.1)]) [1, 2, 3, 4, 0] rfl ?_
        exact H116 o9.1 f_thrown (upd o9.2 (5 : Int32).toNatClampNeg ((o9.2 (5 : Int32).toNatClampNeg) + (1 : Int32))) h

def F_X12_ring (p1 : Int32) (p2 : Int32) (p3 : Int32) (f_pastMany : Int32) (f_thrown : Int32) (a_s : Nat → Int32) (a_before : Nat → Int32) (a_past : Nat → Int32) : Option (Int32 × Int32 × Int32 × (Nat → Int32) × (Nat → Int32) × (Nat → Int32)) :=
  bnd (F_X12_keep a_s f_thrown a_before) (fun o1 => bnd (F_X12_doRing p1 p2 p3 o1.1 a_s) (fun o3 => bnd (F_X12_ends o3.1 o3.2.1 o1.2 f_pastMany o3.2.2 a_past) (fun o5 => some (o5.1, o5.2.1, o3.2.1, o5.2.2.1, o1.2, o5.2.2.2))))
theorem dX12_ring_0 : decode cX12_ring 0 = .ok (.aload_n 0, 1) := by decide +kernel
theorem dX12_ring_1 : decode cX12_ring 1 = .ok (.invokevirtual 101, 3) := by decide +kernel
theorem dX12_ring_4 : decode cX12_ring 4 = .ok (.aload_n 0, 1) := by decide +kernel
theorem dX12_ring_5 : decode cX12_ring 5 = .ok (.aload_n 0, 1) := by decide +kernel
theorem dX12_ring_6 : decode cX12_ring 6 = .ok (.iload_n 1, 1) := by decide +kernel
theorem dX12_ring_7 : decode cX12_ring 7 = .ok (.iload_n 2, 1) := by decide +kernel
theorem dX12_ring_8 : decode cX12_ring 8 = .ok (.iload_n 3, 1) := by decide +kernel
theorem dX12_ring_9 : decode cX12_ring 9 = .ok (.invokevirtual 167, 3) := by decide +kernel
theorem dX12_ring_12 : decode cX12_ring 12 = .ok (.invokevirtual 107, 3) := by decide +kernel
theorem dX12_ring_15 : decode cX12_ring 15 = .ok (.ireturn, 1) := by decide +kernel
theorem k_X12_ring : cardV yX12_ring (Cond.code yX12_ring cX12_ring 4 (some .int)) 3 := ⟨⟨qi_X12_ring, qv_X12_ring⟩, qc_X12_ring, qn_X12, by decide +kernel, by decide +kernel, by decide +kernel⟩
set_option maxHeartbeats 4000000 in
set_option maxRecDepth 100000 in
theorem c_X12_ring (l : Launch) (D : va_G) (g : Nat → ClassId) (q_this q_s q_before q_saved q_past q_steps q_goes q_line q_text q_orders : Nat) (p1 p2 p3 : Int32) (f_isSaved : Int32) (f_pastMany : Int32) (f_thrown : Int32) (f_reason : Int32) (f_detail : Int32) (f_isRefused : Int32) (f_goesMany : Int32) (f_roundSteps : Int32) (f_lineMany : Int32) (f_length : Int32) (f_at : Int32) (f_isWrong : Int32) (f_errorAt : Int32) (f_orderMany : Int32) (a_s : Nat → Int32) (a_before : Nat → Int32) (a_past : Nat → Int32) (o : Int32 × Int32 × Int32 × (Nat → Int32) × (Nat → Int32) × (Nat → Int32)) (h : F_X12_ring p1 p2 p3 f_pastMany f_thrown a_s a_before a_past = some o) : MW l yX12_ring (Cond.code yX12_ring cX12_ring 4 (some .int)) { frames := 6, cells := 0, slots := 0, locals := 138 } D g [.ref q_this, .int p1, .int p2, .int p3] [(q_this, .inr (12, [.ref q_s, .ref q_before, .ref q_saved, .int f_isSaved, .ref q_past, .int f_pastMany, .int f_thrown, .int f_reason, .int f_detail, .int f_isRefused, .ref q_steps, .ref q_goes, .int f_goesMany, .int f_roundSteps, .ref q_line, .int f_lineMany, .ref q_text, .int f_length, .int f_at, .int f_isWrong, .int f_errorAt, .ref q_orders, .int f_orderMany])), (q_s, .inl (g 0, 147, .inl a_s)), (q_before, .inl (g 0, 147, .inl a_before)), (q_past, .inl (g 0, 1176, .inl a_past))] (some (.int o.1)) [(q_this, .inr (12, [.ref q_s, .ref q_before, .ref q_saved, .int f_isSaved, .ref q_past, .int o.2.1, .int o.2.2.1, .int f_reason, .int f_detail, .int f_isRefused, .ref q_steps, .ref q_goes, .int f_goesMany, .int f_roundSteps, .ref q_line, .int f_lineMany, .ref q_text, .int f_length, .int f_at, .int f_isWrong, .int f_errorAt, .ref q_orders, .int f_orderMany])), (q_s, .inl (g 0, 147, .inl o.2.2.2.1)), (q_before, .inl (g 0, 147, .inl o.2.2.2.2.1)), (q_past, .inl (g 0, 1176, .inl o.2.2.2.2.2))] := by
  refine z_wr_start (by decide) (Nat.le_of_ble_eq_true rfl) ?_
  intro p e s m args below meth c Q A X hr hQ hA
  refine z_lv (lv' := [(0, .ref q_this), (1, .int p1), (2, .int p2), (3, .int p3)]) rfl ?_
  refine z_aload_n X 0 dX12_ring_0 rfl rfl ?_
  obtain ⟨o1, e2, h⟩ := bnd_p h
  refine z_wrV (rest := []) (q0 := 0) (ci := 12) (ws' := [(q_this, .inr (12, [.ref q_s, .ref q_before, .ref q_saved, .int f_isSaved, .ref q_past, .int f_pastMany, .int o1.1, .int f_reason, .int f_detail, .int f_isRefused, .ref q_steps, .ref q_goes, .int f_goesMany, .int f_roundSteps, .ref q_line, .int f_lineMany, .ref q_text, .int f_length, .int f_at, .int f_isWrong, .int f_errorAt, .ref q_orders, .int f_orderMany])), (q_s, .inl (g 0, 147, .inl a_s)), (q_before, .inl (g 0, 147, .inl o1.2)), (q_past, .inl (g 0, 1176, .inl a_past))]) (wr := [(q_past, .inl (g 0, 1176, .inl a_past))]) (as := [q_this, q_s, q_before, q_past]) X k_X12_keep (c_X12_keep l D g q_this q_s q_before q_saved q_past q_steps q_goes q_line q_text q_orders f_isSaved f_pastMany f_thrown f_reason f_detail f_isRefused f_goesMany f_roundSteps f_lineMany f_length f_at f_isWrong f_errorAt f_orderMany a_s a_before o1 e2) ql_X12_X12_keep dX12_ring_1 [0, 1, 2] [3] ⟨rfl, rfl, rfl, rfl, rfl, rfl, rfl, rfl⟩ rfl rfl rfl rfl rfl ⟨Nat.le_of_ble_eq_true rfl, Nat.le_of_ble_eq_true rfl, rfl, rfl, Nat.le_of_ble_eq_true rfl, Nat.le_of_ble_eq_true rfl⟩ (Nat.le_of_ble_eq_true rfl) ?_
  refine z_aload_n X 0 dX12_ring_4 rfl rfl ?_
  refine z_aload_n X 0 dX12_ring_5 rfl rfl ?_
  refine z_iload_n X 1 dX12_ring_6 rfl rfl ?_
  refine z_iload_n X 2 dX12_ring_7 rfl rfl ?_
  refine z_iload_n X 3 dX12_ring_8 rfl rfl ?_
  obtain ⟨o3, e4, h⟩ := bnd_p h
  refine z_wrV (rest := [.ref q_this]) (q0 := 0) (ci := 12) (ws' := [(q_this, .inr (12, [.ref q_s, .ref q_before, .ref q_saved, .int f_isSaved, .ref q_past, .int f_pastMany, .int o3.2.1, .int f_reason, .int f_detail, .int f_isRefused, .ref q_steps, .ref q_goes, .int f_goesMany, .int f_roundSteps, .ref q_line, .int f_lineMany, .ref q_text, .int f_length, .int f_at, .int f_isWrong, .int f_errorAt, .ref q_orders, .int f_orderMany])), (q_s, .inl (g 0, 147, .inl o3.2.2)), (q_before, .inl (g 0, 147, .inl o1.2)), (q_past, .inl (g 0, 1176, .inl a_past))]) (wr := [(q_before, .inl (g 0, 147, .inl o1.2)), (q_past, .inl (g 0, 1176, .inl a_past))]) (as := [q_this, q_s, q_before, q_past]) X k_X12_doRing (c_X12_doRing l D g q_this q_s q_before q_saved q_past q_steps q_goes q_line q_text q_orders p1 p2 p3 f_isSaved f_pastMany o1.1 f_reason f_detail f_isRefused f_goesMany f_roundSteps f_lineMany f_length f_at f_isWrong f_errorAt f_orderMany a_s o3 e4) ql_X12_X12_doRing dX12_ring_9 [0, 1] [2, 3] ⟨rfl, rfl, rfl, rfl, rfl, rfl, rfl, rfl⟩ rfl rfl rfl rfl rfl ⟨Nat.le_of_ble_eq_true rfl, Nat.le_of_ble_eq_true rfl, rfl, rfl, Nat.le_of_ble_eq_true rfl, Nat.le_of_ble_eq_true rfl⟩ (Nat.le_of_ble_eq_true rfl) ?_
  obtain ⟨o5, e6, h⟩ := bnd_p h
  refine z_wrV (rest := []) (q0 := 0) (ci := 12) (ws' := [(q_this, .inr (12, [.ref q_s, .ref q_before, .ref q_saved, .int f_isSaved, .ref q_past, .int o5.2.1, .int o3.2.1, .int f_reason, .int f_detail, .int f_isRefused, .ref q_steps, .ref q_goes, .int f_goesMany, .int f_roundSteps, .ref q_line, .int f_lineMany, .ref q_text, .int f_length, .int f_at, .int f_isWrong, .int f_errorAt, .ref q_orders, .int f_orderMany])), (q_s, .inl (g 0, 147, .inl o5.2.2.1)), (q_before, .inl (g 0, 147, .inl o1.2)), (q_past, .inl (g 0, 1176, .inl o5.2.2.2))]) (wr := []) (as := [q_this, q_s, q_before, q_past]) X k_X12_ends (c_X12_ends l D g q_this q_s q_before q_saved q_past q_steps q_goes q_line q_text q_orders o3.1 f_isSaved f_pastMany o3.2.1 f_reason f_detail f_isRefused f_goesMany f_roundSteps f_lineMany f_length f_at f_isWrong f_errorAt f_orderMany o3.2.2 o1.2 a_past o5 e6) ql_X12_X12_ends dX12_ring_12 [0, 1, 2, 3] [] ⟨rfl, rfl, rfl, rfl, rfl, rfl, rfl, rfl⟩ rfl rfl rfl rfl rfl ⟨Nat.le_of_ble_eq_true rfl, Nat.le_of_ble_eq_true rfl, rfl, rfl, Nat.le_of_ble_eq_true rfl, Nat.le_of_ble_eq_true rfl⟩ (Nat.le_of_ble_eq_true rfl) ?_
  cases h
  exact z_iretW X hQ hA hr dX12_ring_15

def J_X12_classOf_34 (p1 : Int32) (p2 : Int32) (p3 : Int32) (p4 : Int32) (a_s : Nat → Int32) (t0 : Int32) (f_thrown : Int32) : Option (Int32 × Int32) :=
  brn (t0 ≤ 0) (bnd (F_X12_kind p1 p2 p3 p4 a_s) (fun o3 => some (o3, t0))) (some ((0 : Int32), t0))

def J_X12_classOf_29 (p1 : Int32) (p2 : Int32) (p3 : Int32) (p4 : Int32) (a_s : Nat → Int32) (f_thrown : Int32) : Option (Int32 × Int32) :=
  J_X12_classOf_34 p1 p2 p3 p4 a_s (2 : Int32) f_thrown

def F_X12_classOf (p1 : Int32) (p2 : Int32) (p3 : Int32) (p4 : Int32) (a_s : Nat → Int32) (f_thrown : Int32) : Option (Int32 × Int32) :=
  bnd (F_X12_isHouse p1 a_s) (fun o1 => brn (o1 = 0) (J_X12_classOf_34 p1 p2 p3 p4 a_s (1 : Int32) f_thrown) (bnd (F_X12_isHour p2) (fun o5 => brn (o5 = 0) (J_X12_classOf_29 p1 p2 p3 p4 a_s f_thrown) (bnd (F_X12_areTones p3 p4) (fun o7 => brn (o7 = 0) (J_X12_classOf_29 p1 p2 p3 p4 a_s f_thrown) (J_X12_classOf_34 p1 p2 p3 p4 a_s (0 : Int32) f_thrown))))))
theorem dX12_classOf_0 : decode cX12_classOf 0 = .ok (.aload_n 0, 1) := by decide +kernel
theorem dX12_classOf_1 : decode cX12_classOf 1 = .ok (.aload_n 0, 1) := by decide +kernel
theorem dX12_classOf_2 : decode cX12_classOf 2 = .ok (.iload_n 1, 1) := by decide +kernel
theorem dX12_classOf_3 : decode cX12_classOf 3 = .ok (.invokevirtual 110, 3) := by decide +kernel
theorem dX12_classOf_6 : decode cX12_classOf 6 = .ok (.ifCond .ne 7, 3) := by decide +kernel
theorem dX12_classOf_9 : decode cX12_classOf 9 = .ok (.iconst 1, 1) := by decide +kernel
theorem dX12_classOf_10 : decode cX12_classOf 10 = .ok (.goto 24, 3) := by decide +kernel
theorem dX12_classOf_13 : decode cX12_classOf 13 = .ok (.iload_n 2, 1) := by decide +kernel
theorem dX12_classOf_14 : decode cX12_classOf 14 = .ok (.invokestatic 85, 3) := by decide +kernel
theorem dX12_classOf_17 : decode cX12_classOf 17 = .ok (.ifCond .eq 12, 3) := by decide +kernel
theorem dX12_classOf_20 : decode cX12_classOf 20 = .ok (.iload_n 3, 1) := by decide +kernel
theorem dX12_classOf_21 : decode cX12_classOf 21 = .ok (.iload 4, 2) := by decide +kernel
theorem dX12_classOf_23 : decode cX12_classOf 23 = .ok (.invokestatic 157, 3) := by decide +kernel
theorem dX12_classOf_26 : decode cX12_classOf 26 = .ok (.ifCond .ne 7, 3) := by decide +kernel
theorem dX12_classOf_29 : decode cX12_classOf 29 = .ok (.iconst 2, 1) := by decide +kernel
theorem dX12_classOf_30 : decode cX12_classOf 30 = .ok (.goto 4, 3) := by decide +kernel
theorem dX12_classOf_33 : decode cX12_classOf 33 = .ok (.iconst 0, 1) := by decide +kernel
theorem dX12_classOf_34 : decode cX12_classOf 34 = .ok (.putfield 42, 3) := by decide +kernel
theorem dX12_classOf_37 : decode cX12_classOf 37 = .ok (.aload_n 0, 1) := by decide +kernel
theorem dX12_classOf_38 : decode cX12_classOf 38 = .ok (.getfield 42, 3) := by decide +kernel
theorem dX12_classOf_41 : decode cX12_classOf 41 = .ok (.ifCond .le 7, 3) := by decide +kernel
theorem dX12_classOf_44 : decode cX12_classOf 44 = .ok (.iconst 0, 1) := by decide +kernel
theorem dX12_classOf_45 : decode cX12_classOf 45 = .ok (.goto 12, 3) := by decide +kernel
theorem dX12_classOf_48 : decode cX12_classOf 48 = .ok (.aload_n 0, 1) := by decide +kernel
theorem dX12_classOf_49 : decode cX12_classOf 49 = .ok (.iload_n 1, 1) := by decide +kernel
theorem dX12_classOf_50 : decode cX12_classOf 50 = .ok (.iload_n 2, 1) := by decide +kernel
theorem dX12_classOf_51 : decode cX12_classOf 51 = .ok (.iload_n 3, 1) := by decide +kernel
theorem dX12_classOf_52 : decode cX12_classOf 52 = .ok (.iload 4, 2) := by decide +kernel
theorem dX12_classOf_54 : decode cX12_classOf 54 = .ok (.invokevirtual 141, 3) := by decide +kernel
theorem dX12_classOf_57 : decode cX12_classOf 57 = .ok (.ireturn, 1) := by decide +kernel
theorem k_X12_classOf : cardV yX12_classOf (Cond.code yX12_classOf cX12_classOf 5 (some .int)) 4 := ⟨⟨qi_X12_classOf, qv_X12_classOf⟩, qc_X12_classOf, qn_X12, by decide +kernel, by decide +kernel, by decide +kernel⟩
set_option maxHeartbeats 4000000 in
set_option maxRecDepth 100000 in
theorem c_X12_classOf (l : Launch) (D : va_G) (g : Nat → ClassId) (q_this q_s q_before q_saved q_past q_steps q_goes q_line q_text q_orders : Nat) (p1 p2 p3 p4 : Int32) (f_isSaved : Int32) (f_pastMany : Int32) (f_thrown : Int32) (f_reason : Int32) (f_detail : Int32) (f_isRefused : Int32) (f_goesMany : Int32) (f_roundSteps : Int32) (f_lineMany : Int32) (f_length : Int32) (f_at : Int32) (f_isWrong : Int32) (f_errorAt : Int32) (f_orderMany : Int32) (a_s : Nat → Int32) (o : Int32 × Int32) (h : F_X12_classOf p1 p2 p3 p4 a_s f_thrown = some o) : MW l yX12_classOf (Cond.code yX12_classOf cX12_classOf 5 (some .int)) { frames := 4, cells := 0, slots := 0, locals := 88 } D g [.ref q_this, .int p1, .int p2, .int p3, .int p4] [(q_this, .inr (12, [.ref q_s, .ref q_before, .ref q_saved, .int f_isSaved, .ref q_past, .int f_pastMany, .int f_thrown, .int f_reason, .int f_detail, .int f_isRefused, .ref q_steps, .ref q_goes, .int f_goesMany, .int f_roundSteps, .ref q_line, .int f_lineMany, .ref q_text, .int f_length, .int f_at, .int f_isWrong, .int f_errorAt, .ref q_orders, .int f_orderMany])), (q_s, .inl (g 0, 147, .inl a_s))] (some (.int o.1)) [(q_this, .inr (12, [.ref q_s, .ref q_before, .ref q_saved, .int f_isSaved, .ref q_past, .int f_pastMany, .int o.2, .int f_reason, .int f_detail, .int f_isRefused, .ref q_steps, .ref q_goes, .int f_goesMany, .int f_roundSteps, .ref q_line, .int f_lineMany, .ref q_text, .int f_length, .int f_at, .int f_isWrong, .int f_errorAt, .ref q_orders, .int f_orderMany])), (q_s, .inl (g 0, 147, .inl a_s))] := by
  refine z_wr_start (by decide) (Nat.le_of_ble_eq_true rfl) ?_
  intro p e s m args below meth c Q A X hr hQ hA
  refine z_lv (lv' := [(0, .ref q_this), (1, .int p1), (2, .int p2), (3, .int p3), (4, .int p4)]) rfl ?_
  have H34 : ∀ (t0 : Int32) (f_thrown : Int32), J_X12_classOf_34 p1 p2 p3 p4 a_s t0 f_thrown = some o → Z p l e { frames := 4, cells := 0, slots := 0, locals := 88 } s m args below meth c Q 5 0 0 (IW D A s [(q_this, .inr (12, [.ref q_s, .ref q_before, .ref q_saved, .int f_isSaved, .ref q_past, .int f_pastMany, .int f_thrown, .int f_reason, .int f_detail, .int f_isRefused, .ref q_steps, .ref q_goes, .int f_goesMany, .int f_roundSteps, .ref q_line, .int f_lineMany, .ref q_text, .int f_length, .int f_at, .int f_isWrong, .int f_errorAt, .ref q_orders, .int f_orderMany])), (q_s, .inl (g 0, 147, .inl a_s))]) 34 [(0, .ref q_this), (1, .int p1), (2, .int p2), (3, .int p3), (4, .int p4)] [.int t0, .ref q_this] := by
    intro t0 f_thrown h
    refine z_put (q0 := 0) (k := 6) (ci := 12) (ws' := [(q_this, .inr (12, [.ref q_s, .ref q_before, .ref q_saved, .int f_isSaved, .ref q_past, .int f_pastMany, .int t0, .int f_reason, .int f_detail, .int f_isRefused, .ref q_steps, .ref q_goes, .int f_goesMany, .int f_roundSteps, .ref q_line, .int f_lineMany, .ref q_text, .int f_length, .int f_at, .int f_isWrong, .int f_errorAt, .ref q_orders, .int f_orderMany])), (q_s, .inl (g 0, 147, .inl a_s))]) X iw_X12 tyX12_ok nmX12 rfl qf_X12_X12_thrown (by decide) rfl rfl dX12_classOf_34 rfl rfl rfl (Nat.le_of_ble_eq_true rfl) rfl ?_
    refine z_aload_n X 0 dX12_classOf_37 rfl rfl ?_
    refine z_get (q0 := 0) (k := 6) (ci := 12) X IW_P iw_X12 rfl qf_X12_X12_thrown (by decide) dX12_classOf_38 rfl rfl ?_
    refine z_if_le X 48 dX12_classOf_41 (by decide) h (fun _ h => ?_) (fun _ h => ?_)
    · refine z_aload_n X 0 dX12_classOf_48 rfl rfl ?_
      refine z_iload_n X 1 dX12_classOf_49 rfl rfl ?_
      refine z_iload_n X 2 dX12_classOf_50 rfl rfl ?_
      refine z_iload_n X 3 dX12_classOf_51 rfl rfl ?_
      refine z_iload X 4 dX12_classOf_52 rfl ?_
      obtain ⟨o3, e4, h⟩ := bnd_p h
      refine z_rdV (rest := []) (q0 := 0) (ci := 12) X IW_P k_X12_kind (c_X12_kind l D g q_this q_s q_before q_saved q_past q_steps q_goes q_line q_text q_orders p1 p2 p3 p4 f_isSaved f_pastMany t0 f_reason f_detail f_isRefused f_goesMany f_roundSteps f_lineMany f_length f_at f_isWrong f_errorAt f_orderMany a_s o3 e4) ql_X12_X12_kind dX12_classOf_54 [0, 1] rfl rfl rfl rfl rfl rfl ⟨Nat.le_of_ble_eq_true rfl, Nat.le_of_ble_eq_true rfl, rfl, rfl, Nat.le_of_ble_eq_true rfl, Nat.le_of_ble_eq_true rfl⟩ (Nat.le_of_ble_eq_true rfl) ?_
      cases h
      exact z_iretW X hQ hA hr dX12_classOf_57
    · refine z_iconst X (0 : Int32) dX12_classOf_44 (by decide) ?_
      refine z_goto X 57 dX12_classOf_45 (by decide) ?_
      cases h
      exact z_iretW X hQ hA hr dX12_classOf_57
  have H29 : ∀ (f_thrown : Int32), J_X12_classOf_29 p1 p2 p3 p4 a_s f_thrown = some o → Z p l e { frames := 4, cells := 0, slots := 0, locals := 88 } s m args below meth c Q 5 0 0 (IW D A s [(q_this, .inr (12, [.ref q_s, .ref q_before, .ref q_saved, .int f_isSaved, .ref q_past, .int f_pastMany, .int f_thrown, .int f_reason, .int f_detail, .int f_isRefused, .ref q_steps, .ref q_goes, .int f_goesMany, .int f_roundSteps, .ref q_line, .int f_lineMany, .ref q_text, .int f_length, .int f_at, .int f_isWrong, .int f_errorAt, .ref q_orders, .int f_orderMany])), (q_s, .inl (g 0, 147, .inl a_s))]) 29 [(0, .ref q_this), (1, .int p1), (2, .int p2), (3, .int p3), (4, .int p4)] [.ref q_this] := by
    intro f_thrown h
    refine z_iconst X (2 : Int32) dX12_classOf_29 (by decide) ?_
    refine z_goto X 34 dX12_classOf_30 (by decide) ?_
    exact H34 (2 : Int32) f_thrown h
  refine z_aload_n X 0 dX12_classOf_0 rfl rfl ?_
  refine z_aload_n X 0 dX12_classOf_1 rfl rfl ?_
  refine z_iload_n X 1 dX12_classOf_2 rfl rfl ?_
  obtain ⟨o1, e2, h⟩ := bnd_p h
  refine z_rdV (rest := [.ref q_this]) (q0 := 0) (ci := 12) X IW_P k_X12_isHouse (c_X12_isHouse l D g q_this q_s q_before q_saved q_past q_steps q_goes q_line q_text q_orders p1 f_isSaved f_pastMany f_thrown f_reason f_detail f_isRefused f_goesMany f_roundSteps f_lineMany f_length f_at f_isWrong f_errorAt f_orderMany a_s o1 e2) ql_X12_X12_isHouse dX12_classOf_3 [0, 1] rfl rfl rfl rfl rfl rfl ⟨Nat.le_of_ble_eq_true rfl, Nat.le_of_ble_eq_true rfl, rfl, rfl, Nat.le_of_ble_eq_true rfl, Nat.le_of_ble_eq_true rfl⟩ (Nat.le_of_ble_eq_true rfl) ?_
  refine z_if_ne X 13 dX12_classOf_6 (by decide) h (fun _ h => ?_) (fun _ h => ?_)
  · refine z_iconst X (1 : Int32) dX12_classOf_9 (by decide) ?_
    refine z_goto X 34 dX12_classOf_10 (by decide) ?_
    exact H34 (1 : Int32) f_thrown h
  · refine z_iload_n X 2 dX12_classOf_13 rfl rfl ?_
    obtain ⟨o5, e6, h⟩ := bnd_p h
    refine z_rdS (rest := [.ref q_this]) X IW_P k_X12_isHour (c_X12_isHour l D g p2 o5 e6) ql_X12_X12_isHour dX12_classOf_14 [] rfl rfl rfl ⟨Nat.le_of_ble_eq_true rfl, Nat.le_of_ble_eq_true rfl, rfl, rfl, Nat.le_of_ble_eq_true rfl, Nat.le_of_ble_eq_true rfl⟩ (Nat.le_of_ble_eq_true rfl) ?_
    refine z_if_eq X 29 dX12_classOf_17 (by decide) h (fun _ h => ?_) (fun _ h => ?_)
    · exact H29 f_thrown h
    · refine z_iload_n X 3 dX12_classOf_20 rfl rfl ?_
      refine z_iload X 4 dX12_classOf_21 rfl ?_
      obtain ⟨o7, e8, h⟩ := bnd_p h
      refine z_rdS (rest := [.ref q_this]) X IW_P k_X12_areTones (c_X12_areTones l D g p3 p4 o7 e8) ql_X12_X12_areTones dX12_classOf_23 [] rfl rfl rfl ⟨Nat.le_of_ble_eq_true rfl, Nat.le_of_ble_eq_true rfl, rfl, rfl, Nat.le_of_ble_eq_true rfl, Nat.le_of_ble_eq_true rfl⟩ (Nat.le_of_ble_eq_true rfl) ?_
      refine z_if_ne X 33 dX12_classOf_26 (by decide) h (fun _ h => ?_) (fun _ h => ?_)
      · exact H29 f_thrown h
      · refine z_iconst X (0 : Int32) dX12_classOf_33 (by decide) ?_
        exact H34 (0 : Int32) f_thrown h

def J_X12_echo_49 (p1 : Int32) (p2 : Int32) (p3 : Int32) (a_s : Nat → Int32) (t0 : Int32) (f_thrown : Int32) : Option (Int32 × Int32) :=
  brn (t0 ≤ 0) (bnd (F_X12_shortsAt p1 p2 p3 a_s) (fun o3 => some (o3, t0))) (some ((0 : Int32), t0))

def J_X12_echo_17 (p1 : Int32) (p2 : Int32) (p3 : Int32) (a_s : Nat → Int32) (f_thrown : Int32) : Option (Int32 × Int32) :=
  J_X12_echo_49 p1 p2 p3 a_s (1 : Int32) f_thrown

def F_X12_echo (p1 : Int32) (p2 : Int32) (p3 : Int32) (a_s : Nat → Int32) (f_thrown : Int32) : Option (Int32 × Int32) :=
  bnd (F_X12_isHouse p1 a_s) (fun o1 => brn (o1 = 0) (J_X12_echo_17 p1 p2 p3 a_s f_thrown) (bnd (F_X12_isHouse p2 a_s) (fun o5 => brn (o5 = 0) (J_X12_echo_17 p1 p2 p3 a_s f_thrown) (bnd (F_X12_in p3 (0 : Int32) (9 : Int32)) (fun o7 => brn (o7 = 0) (J_X12_echo_49 p1 p2 p3 a_s (2 : Int32) f_thrown) (bnd (F_X12_areInHall p1 p2 a_s) (fun o9 => brn (o9 = 0) (J_X12_echo_49 p1 p2 p3 a_s (3 : Int32) f_thrown) (J_X12_echo_49 p1 p2 p3 a_s (0 : Int32) f_thrown))))))))
theorem dX12_echo_0 : decode cX12_echo 0 = .ok (.aload_n 0, 1) := by decide +kernel
theorem dX12_echo_1 : decode cX12_echo 1 = .ok (.aload_n 0, 1) := by decide +kernel
theorem dX12_echo_2 : decode cX12_echo 2 = .ok (.iload_n 1, 1) := by decide +kernel
theorem dX12_echo_3 : decode cX12_echo 3 = .ok (.invokevirtual 110, 3) := by decide +kernel
theorem dX12_echo_6 : decode cX12_echo 6 = .ok (.ifCond .eq 11, 3) := by decide +kernel
theorem dX12_echo_9 : decode cX12_echo 9 = .ok (.aload_n 0, 1) := by decide +kernel
theorem dX12_echo_10 : decode cX12_echo 10 = .ok (.iload_n 2, 1) := by decide +kernel
theorem dX12_echo_11 : decode cX12_echo 11 = .ok (.invokevirtual 110, 3) := by decide +kernel
theorem dX12_echo_14 : decode cX12_echo 14 = .ok (.ifCond .ne 7, 3) := by decide +kernel
theorem dX12_echo_17 : decode cX12_echo 17 = .ok (.iconst 1, 1) := by decide +kernel
theorem dX12_echo_18 : decode cX12_echo 18 = .ok (.goto 31, 3) := by decide +kernel
theorem dX12_echo_21 : decode cX12_echo 21 = .ok (.iload_n 3, 1) := by decide +kernel
theorem dX12_echo_22 : decode cX12_echo 22 = .ok (.iconst 0, 1) := by decide +kernel
theorem dX12_echo_23 : decode cX12_echo 23 = .ok (.bipush 9, 2) := by decide +kernel
theorem dX12_echo_25 : decode cX12_echo 25 = .ok (.invokestatic 64, 3) := by decide +kernel
theorem dX12_echo_28 : decode cX12_echo 28 = .ok (.ifCond .ne 7, 3) := by decide +kernel
theorem dX12_echo_31 : decode cX12_echo 31 = .ok (.iconst 2, 1) := by decide +kernel
theorem dX12_echo_32 : decode cX12_echo 32 = .ok (.goto 17, 3) := by decide +kernel
theorem dX12_echo_35 : decode cX12_echo 35 = .ok (.aload_n 0, 1) := by decide +kernel
theorem dX12_echo_36 : decode cX12_echo 36 = .ok (.iload_n 1, 1) := by decide +kernel
theorem dX12_echo_37 : decode cX12_echo 37 = .ok (.iload_n 2, 1) := by decide +kernel
theorem dX12_echo_38 : decode cX12_echo 38 = .ok (.invokevirtual 151, 3) := by decide +kernel
theorem dX12_echo_41 : decode cX12_echo 41 = .ok (.ifCond .ne 7, 3) := by decide +kernel
theorem dX12_echo_44 : decode cX12_echo 44 = .ok (.iconst 3, 1) := by decide +kernel
theorem dX12_echo_45 : decode cX12_echo 45 = .ok (.goto 4, 3) := by decide +kernel
theorem dX12_echo_48 : decode cX12_echo 48 = .ok (.iconst 0, 1) := by decide +kernel
theorem dX12_echo_49 : decode cX12_echo 49 = .ok (.putfield 42, 3) := by decide +kernel
theorem dX12_echo_52 : decode cX12_echo 52 = .ok (.aload_n 0, 1) := by decide +kernel
theorem dX12_echo_53 : decode cX12_echo 53 = .ok (.getfield 42, 3) := by decide +kernel
theorem dX12_echo_56 : decode cX12_echo 56 = .ok (.ifCond .le 7, 3) := by decide +kernel
theorem dX12_echo_59 : decode cX12_echo 59 = .ok (.iconst 0, 1) := by decide +kernel
theorem dX12_echo_60 : decode cX12_echo 60 = .ok (.goto 10, 3) := by decide +kernel
theorem dX12_echo_63 : decode cX12_echo 63 = .ok (.aload_n 0, 1) := by decide +kernel
theorem dX12_echo_64 : decode cX12_echo 64 = .ok (.iload_n 1, 1) := by decide +kernel
theorem dX12_echo_65 : decode cX12_echo 65 = .ok (.iload_n 2, 1) := by decide +kernel
theorem dX12_echo_66 : decode cX12_echo 66 = .ok (.iload_n 3, 1) := by decide +kernel
theorem dX12_echo_67 : decode cX12_echo 67 = .ok (.invokevirtual 154, 3) := by decide +kernel
theorem dX12_echo_70 : decode cX12_echo 70 = .ok (.ireturn, 1) := by decide +kernel
theorem k_X12_echo : cardV yX12_echo (Cond.code yX12_echo cX12_echo 4 (some .int)) 3 := ⟨⟨qi_X12_echo, qv_X12_echo⟩, qc_X12_echo, qn_X12, by decide +kernel, by decide +kernel, by decide +kernel⟩
set_option maxHeartbeats 4000000 in
set_option maxRecDepth 100000 in
theorem c_X12_echo (l : Launch) (D : va_G) (g : Nat → ClassId) (q_this q_s q_before q_saved q_past q_steps q_goes q_line q_text q_orders : Nat) (p1 p2 p3 : Int32) (f_isSaved : Int32) (f_pastMany : Int32) (f_thrown : Int32) (f_reason : Int32) (f_detail : Int32) (f_isRefused : Int32) (f_goesMany : Int32) (f_roundSteps : Int32) (f_lineMany : Int32) (f_length : Int32) (f_at : Int32) (f_isWrong : Int32) (f_errorAt : Int32) (f_orderMany : Int32) (a_s : Nat → Int32) (o : Int32 × Int32) (h : F_X12_echo p1 p2 p3 a_s f_thrown = some o) : MW l yX12_echo (Cond.code yX12_echo cX12_echo 4 (some .int)) { frames := 3, cells := 0, slots := 0, locals := 84 } D g [.ref q_this, .int p1, .int p2, .int p3] [(q_this, .inr (12, [.ref q_s, .ref q_before, .ref q_saved, .int f_isSaved, .ref q_past, .int f_pastMany, .int f_thrown, .int f_reason, .int f_detail, .int f_isRefused, .ref q_steps, .ref q_goes, .int f_goesMany, .int f_roundSteps, .ref q_line, .int f_lineMany, .ref q_text, .int f_length, .int f_at, .int f_isWrong, .int f_errorAt, .ref q_orders, .int f_orderMany])), (q_s, .inl (g 0, 147, .inl a_s))] (some (.int o.1)) [(q_this, .inr (12, [.ref q_s, .ref q_before, .ref q_saved, .int f_isSaved, .ref q_past, .int f_pastMany, .int o.2, .int f_reason, .int f_detail, .int f_isRefused, .ref q_steps, .ref q_goes, .int f_goesMany, .int f_roundSteps, .ref q_line, .int f_lineMany, .ref q_text, .int f_length, .int f_at, .int f_isWrong, .int f_errorAt, .ref q_orders, .int f_orderMany])), (q_s, .inl (g 0, 147, .inl a_s))] := by
  refine z_wr_start (by decide) (Nat.le_of_ble_eq_true rfl) ?_
  intro p e s m args below meth c Q A X hr hQ hA
  refine z_lv (lv' := [(0, .ref q_this), (1, .int p1), (2, .int p2), (3, .int p3)]) rfl ?_
  have H49 : ∀ (t0 : Int32) (f_thrown : Int32), J_X12_echo_49 p1 p2 p3 a_s t0 f_thrown = some o → Z p l e { frames := 3, cells := 0, slots := 0, locals := 84 } s m args below meth c Q 4 0 0 (IW D A s [(q_this, .inr (12, [.ref q_s, .ref q_before, .ref q_saved, .int f_isSaved, .ref q_past, .int f_pastMany, .int f_thrown, .int f_reason, .int f_detail, .int f_isRefused, .ref q_steps, .ref q_goes, .int f_goesMany, .int f_roundSteps, .ref q_line, .int f_lineMany, .ref q_text, .int f_length, .int f_at, .int f_isWrong, .int f_errorAt, .ref q_orders, .int f_orderMany])), (q_s, .inl (g 0, 147, .inl a_s))]) 49 [(0, .ref q_this), (1, .int p1), (2, .int p2), (3, .int p3)] [.int t0, .ref q_this] := by
    intro t0 f_thrown h
    refine z_put (q0 := 0) (k := 6) (ci := 12) (ws' := [(q_this, .inr (12, [.ref q_s, .ref q_before, .ref q_saved, .int f_isSaved, .ref q_past, .int f_pastMany, .int t0, .int f_reason, .int f_detail, .int f_isRefused, .ref q_steps, .ref q_goes, .int f_goesMany, .int f_roundSteps, .ref q_line, .int f_lineMany, .ref q_text, .int f_length, .int f_at, .int f_isWrong, .int f_errorAt, .ref q_orders, .int f_orderMany])), (q_s, .inl (g 0, 147, .inl a_s))]) X iw_X12 tyX12_ok nmX12 rfl qf_X12_X12_thrown (by decide) rfl rfl dX12_echo_49 rfl rfl rfl (Nat.le_of_ble_eq_true rfl) rfl ?_
    refine z_aload_n X 0 dX12_echo_52 rfl rfl ?_
    refine z_get (q0 := 0) (k := 6) (ci := 12) X IW_P iw_X12 rfl qf_X12_X12_thrown (by decide) dX12_echo_53 rfl rfl ?_
    refine z_if_le X 63 dX12_echo_56 (by decide) h (fun _ h => ?_) (fun _ h => ?_)
    · refine z_aload_n X 0 dX12_echo_63 rfl rfl ?_
      refine z_iload_n X 1 dX12_echo_64 rfl rfl ?_
      refine z_iload_n X 2 dX12_echo_65 rfl rfl ?_
      refine z_iload_n X 3 dX12_echo_66 rfl rfl ?_
      obtain ⟨o3, e4, h⟩ := bnd_p h
      refine z_rdV (rest := []) (q0 := 0) (ci := 12) X IW_P k_X12_shortsAt (c_X12_shortsAt l D g q_this q_s q_before q_saved q_past q_steps q_goes q_line q_text q_orders p1 p2 p3 f_isSaved f_pastMany t0 f_reason f_detail f_isRefused f_goesMany f_roundSteps f_lineMany f_length f_at f_isWrong f_errorAt f_orderMany a_s o3 e4) ql_X12_X12_shortsAt dX12_echo_67 [0, 1] rfl rfl rfl rfl rfl rfl ⟨Nat.le_of_ble_eq_true rfl, Nat.le_of_ble_eq_true rfl, rfl, rfl, Nat.le_of_ble_eq_true rfl, Nat.le_of_ble_eq_true rfl⟩ (Nat.le_of_ble_eq_true rfl) ?_
      cases h
      exact z_iretW X hQ hA hr dX12_echo_70
    · refine z_iconst X (0 : Int32) dX12_echo_59 (by decide) ?_
      refine z_goto X 70 dX12_echo_60 (by decide) ?_
      cases h
      exact z_iretW X hQ hA hr dX12_echo_70
  have H17 : ∀ (f_thrown : Int32), J_X12_echo_17 p1 p2 p3 a_s f_thrown = some o → Z p l e { frames := 3, cells := 0, slots := 0, locals := 84 } s m args below meth c Q 4 0 0 (IW D A s [(q_this, .inr (12, [.ref q_s, .ref q_before, .ref q_saved, .int f_isSaved, .ref q_past, .int f_pastMany, .int f_thrown, .int f_reason, .int f_detail, .int f_isRefused, .ref q_steps, .ref q_goes, .int f_goesMany, .int f_roundSteps, .ref q_line, .int f_lineMany, .ref q_text, .int f_length, .int f_at, .int f_isWrong, .int f_errorAt, .ref q_orders, .int f_orderMany])), (q_s, .inl (g 0, 147, .inl a_s))]) 17 [(0, .ref q_this), (1, .int p1), (2, .int p2), (3, .int p3)] [.ref q_this] := by
    intro f_thrown h
    refine z_iconst X (1 : Int32) dX12_echo_17 (by decide) ?_
    refine z_goto X 49 dX12_echo_18 (by decide) ?_
    exact H49 (1 : Int32) f_thrown h
  refine z_aload_n X 0 dX12_echo_0 rfl rfl ?_
  refine z_aload_n X 0 dX12_echo_1 rfl rfl ?_
  refine z_iload_n X 1 dX12_echo_2 rfl rfl ?_
  obtain ⟨o1, e2, h⟩ := bnd_p h
  refine z_rdV (rest := [.ref q_this]) (q0 := 0) (ci := 12) X IW_P k_X12_isHouse (c_X12_isHouse l D g q_this q_s q_before q_saved q_past q_steps q_goes q_line q_text q_orders p1 f_isSaved f_pastMany f_thrown f_reason f_detail f_isRefused f_goesMany f_roundSteps f_lineMany f_length f_at f_isWrong f_errorAt f_orderMany a_s o1 e2) ql_X12_X12_isHouse dX12_echo_3 [0, 1] rfl rfl rfl rfl rfl rfl ⟨Nat.le_of_ble_eq_true rfl, Nat.le_of_ble_eq_true rfl, rfl, rfl, Nat.le_of_ble_eq_true rfl, Nat.le_of_ble_eq_true rfl⟩ (Nat.le_of_ble_eq_true rfl) ?_
  refine z_if_eq X 17 dX12_echo_6 (by decide) h (fun _ h => ?_) (fun _ h => ?_)
  · exact H17 f_thrown h
  · refine z_aload_n X 0 dX12_echo_9 rfl rfl ?_
    refine z_iload_n X 2 dX12_echo_10 rfl rfl ?_
    obtain ⟨o5, e6, h⟩ := bnd_p h
    refine z_rdV (rest := [.ref q_this]) (q0 := 0) (ci := 12) X IW_P k_X12_isHouse (c_X12_isHouse l D g q_this q_s q_before q_saved q_past q_steps q_goes q_line q_text q_orders p2 f_isSaved f_pastMany f_thrown f_reason f_detail f_isRefused f_goesMany f_roundSteps f_lineMany f_length f_at f_isWrong f_errorAt f_orderMany a_s o5 e6) ql_X12_X12_isHouse dX12_echo_11 [0, 1] rfl rfl rfl rfl rfl rfl ⟨Nat.le_of_ble_eq_true rfl, Nat.le_of_ble_eq_true rfl, rfl, rfl, Nat.le_of_ble_eq_true rfl, Nat.le_of_ble_eq_true rfl⟩ (Nat.le_of_ble_eq_true rfl) ?_
    refine z_if_ne X 21 dX12_echo_14 (by decide) h (fun _ h => ?_) (fun _ h => ?_)
    · exact H17 f_thrown h
    · refine z_iload_n X 3 dX12_echo_21 rfl rfl ?_
      refine z_iconst X (0 : Int32) dX12_echo_22 (by decide) ?_
      refine z_bipush X (9 : Int32) dX12_echo_23 (by decide) ?_
      obtain ⟨o7, e8, h⟩ := bnd_p h
      refine z_rdS (rest := [.ref q_this]) X IW_P k_X12_in (c_X12_in l D g p3 (0 : Int32) (9 : Int32) o7 e8) ql_X12_X12_in dX12_echo_25 [] rfl rfl rfl ⟨Nat.le_of_ble_eq_true rfl, Nat.le_of_ble_eq_true rfl, rfl, rfl, Nat.le_of_ble_eq_true rfl, Nat.le_of_ble_eq_true rfl⟩ (Nat.le_of_ble_eq_true rfl) ?_
      refine z_if_ne X 35 dX12_echo_28 (by decide) h (fun _ h => ?_) (fun _ h => ?_)
      · refine z_iconst X (2 : Int32) dX12_echo_31 (by decide) ?_
        refine z_goto X 49 dX12_echo_32 (by decide) ?_
        exact H49 (2 : Int32) f_thrown h
      · refine z_aload_n X 0 dX12_echo_35 rfl rfl ?_
        refine z_iload_n X 1 dX12_echo_36 rfl rfl ?_
        refine z_iload_n X 2 dX12_echo_37 rfl rfl ?_
        obtain ⟨o9, e10, h⟩ := bnd_p h
        refine z_rdV (rest := [.ref q_this]) (q0 := 0) (ci := 12) X IW_P k_X12_areInHall (c_X12_areInHall l D g q_this q_s q_before q_saved q_past q_steps q_goes q_line q_text q_orders p1 p2 f_isSaved f_pastMany f_thrown f_reason f_detail f_isRefused f_goesMany f_roundSteps f_lineMany f_length f_at f_isWrong f_errorAt f_orderMany a_s o9 e10) ql_X12_X12_areInHall dX12_echo_38 [0, 1] rfl rfl rfl rfl rfl rfl ⟨Nat.le_of_ble_eq_true rfl, Nat.le_of_ble_eq_true rfl, rfl, rfl, Nat.le_of_ble_eq_true rfl, Nat.le_of_ble_eq_true rfl⟩ (Nat.le_of_ble_eq_true rfl) ?_
        refine z_if_ne X 48 dX12_echo_41 (by decide) h (fun _ h => ?_) (fun _ h => ?_)
        · refine z_iconst X (3 : Int32) dX12_echo_44 (by decide) ?_
          refine z_goto X 49 dX12_echo_45 (by decide) ?_
          exact H49 (3 : Int32) f_thrown h
        · refine z_iconst X (0 : Int32) dX12_echo_48 (by decide) ?_
          exact H49 (0 : Int32) f_thrown h

def J_X12_heard_81 (p1 : Int32) (p2 : Int32) (p3 : Int32) (a_s : Nat → Int32) (x4 : Int32) (f_thrown : Int32) : Option (Int32 × Int32) :=
  brn (f_thrown ≤ 0) (some (x4, f_thrown)) (some ((0 : Int32), f_thrown))

def J_X12_heard_72 (p1 : Int32) (p2 : Int32) (p3 : Int32) (a_s : Nat → Int32) (r35 : Int32 → Int32 → (Int32) → Option (Int32 × Int32)) (t0 : Int32) (t1 : Int32) (x5 : Int32) (f_thrown : Int32) : Option (Int32 × Int32) :=
  r35 (t1 + t0) (x5 + 1) f_thrown

def L_X12_heard_35 (p1 : Int32) (p2 : Int32) (p3 : Int32) (a_s : Nat → Int32) : Nat → Int32 → Int32 → (Int32) → Option (Int32 × Int32)
  | 0, _, _, _ => none
  | _n + 1, x4, x5, f_thrown =>
    grd (inb (2 : Int32) 147) (brn ((a_s (2 : Int32).toNatClampNeg) ≤ x5) (J_X12_heard_81 p1 p2 p3 a_s x4 f_thrown) (brn (f_thrown = 0) (bnd (F_X12_echoes p1 x5 p2 p3 a_s) (fun o3 => brn (o3 = 0) (J_X12_heard_72 p1 p2 p3 a_s (L_X12_heard_35 p1 p2 p3 a_s _n) (0 : Int32) x4 x5 f_thrown) (J_X12_heard_72 p1 p2 p3 a_s (L_X12_heard_35 p1 p2 p3 a_s _n) (1 : Int32) x4 x5 f_thrown))) (J_X12_heard_81 p1 p2 p3 a_s x4 f_thrown)))

def J_X12_heard_26 (p1 : Int32) (p2 : Int32) (p3 : Int32) (a_s : Nat → Int32) (t0 : Int32) (f_thrown : Int32) : Option (Int32 × Int32) :=
  L_X12_heard_35 p1 p2 p3 a_s 100 (1 : Int32) (0 : Int32) t0

def F_X12_heard (p1 : Int32) (p2 : Int32) (p3 : Int32) (a_s : Nat → Int32) (f_thrown : Int32) : Option (Int32 × Int32) :=
  bnd (F_X12_isHouse p1 a_s) (fun o1 => brn (o1 = 0) (J_X12_heard_26 p1 p2 p3 a_s (1 : Int32) f_thrown) (bnd (F_X12_areTones p2 p3) (fun o5 => brn (o5 = 0) (J_X12_heard_26 p1 p2 p3 a_s (2 : Int32) f_thrown) (J_X12_heard_26 p1 p2 p3 a_s (0 : Int32) f_thrown))))
theorem dX12_heard_0 : decode cX12_heard 0 = .ok (.aload_n 0, 1) := by decide +kernel
theorem dX12_heard_1 : decode cX12_heard 1 = .ok (.aload_n 0, 1) := by decide +kernel
theorem dX12_heard_2 : decode cX12_heard 2 = .ok (.iload_n 1, 1) := by decide +kernel
theorem dX12_heard_3 : decode cX12_heard 3 = .ok (.invokevirtual 110, 3) := by decide +kernel
theorem dX12_heard_6 : decode cX12_heard 6 = .ok (.ifCond .ne 7, 3) := by decide +kernel
theorem dX12_heard_9 : decode cX12_heard 9 = .ok (.iconst 1, 1) := by decide +kernel
theorem dX12_heard_10 : decode cX12_heard 10 = .ok (.goto 16, 3) := by decide +kernel
theorem dX12_heard_13 : decode cX12_heard 13 = .ok (.iload_n 2, 1) := by decide +kernel
theorem dX12_heard_14 : decode cX12_heard 14 = .ok (.iload_n 3, 1) := by decide +kernel
theorem dX12_heard_15 : decode cX12_heard 15 = .ok (.invokestatic 157, 3) := by decide +kernel
theorem dX12_heard_18 : decode cX12_heard 18 = .ok (.ifCond .ne 7, 3) := by decide +kernel
theorem dX12_heard_21 : decode cX12_heard 21 = .ok (.iconst 2, 1) := by decide +kernel
theorem dX12_heard_22 : decode cX12_heard 22 = .ok (.goto 4, 3) := by decide +kernel
theorem dX12_heard_25 : decode cX12_heard 25 = .ok (.iconst 0, 1) := by decide +kernel
theorem dX12_heard_26 : decode cX12_heard 26 = .ok (.putfield 42, 3) := by decide +kernel
theorem dX12_heard_29 : decode cX12_heard 29 = .ok (.iconst 1, 1) := by decide +kernel
theorem dX12_heard_30 : decode cX12_heard 30 = .ok (.istore 4, 2) := by decide +kernel
theorem dX12_heard_32 : decode cX12_heard 32 = .ok (.iconst 0, 1) := by decide +kernel
theorem dX12_heard_33 : decode cX12_heard 33 = .ok (.istore 5, 2) := by decide +kernel
theorem dX12_heard_35 : decode cX12_heard 35 = .ok (.iload 5, 2) := by decide +kernel
theorem dX12_heard_37 : decode cX12_heard 37 = .ok (.aload_n 0, 1) := by decide +kernel
theorem dX12_heard_38 : decode cX12_heard 38 = .ok (.getfield 9, 3) := by decide +kernel
theorem dX12_heard_41 : decode cX12_heard 41 = .ok (.iconst 2, 1) := by decide +kernel
theorem dX12_heard_42 : decode cX12_heard 42 = .ok (.iaload, 1) := by decide +kernel
theorem dX12_heard_43 : decode cX12_heard 43 = .ok (.if_icmp .ge 38, 3) := by decide +kernel
theorem dX12_heard_46 : decode cX12_heard 46 = .ok (.aload_n 0, 1) := by decide +kernel
theorem dX12_heard_47 : decode cX12_heard 47 = .ok (.getfield 42, 3) := by decide +kernel
theorem dX12_heard_50 : decode cX12_heard 50 = .ok (.ifCond .ne 31, 3) := by decide +kernel
theorem dX12_heard_53 : decode cX12_heard 53 = .ok (.iload 4, 2) := by decide +kernel
theorem dX12_heard_55 : decode cX12_heard 55 = .ok (.aload_n 0, 1) := by decide +kernel
theorem dX12_heard_56 : decode cX12_heard 56 = .ok (.iload_n 1, 1) := by decide +kernel
theorem dX12_heard_57 : decode cX12_heard 57 = .ok (.iload 5, 2) := by decide +kernel
theorem dX12_heard_59 : decode cX12_heard 59 = .ok (.iload_n 2, 1) := by decide +kernel
theorem dX12_heard_60 : decode cX12_heard 60 = .ok (.iload_n 3, 1) := by decide +kernel
theorem dX12_heard_61 : decode cX12_heard 61 = .ok (.invokevirtual 163, 3) := by decide +kernel
theorem dX12_heard_64 : decode cX12_heard 64 = .ok (.ifCond .eq 7, 3) := by decide +kernel
theorem dX12_heard_67 : decode cX12_heard 67 = .ok (.iconst 1, 1) := by decide +kernel
theorem dX12_heard_68 : decode cX12_heard 68 = .ok (.goto 4, 3) := by decide +kernel
theorem dX12_heard_71 : decode cX12_heard 71 = .ok (.iconst 0, 1) := by decide +kernel
theorem dX12_heard_72 : decode cX12_heard 72 = .ok (.iadd, 1) := by decide +kernel
theorem dX12_heard_73 : decode cX12_heard 73 = .ok (.istore 4, 2) := by decide +kernel
theorem dX12_heard_75 : decode cX12_heard 75 = .ok (.iinc 5 1, 3) := by decide +kernel
theorem dX12_heard_78 : decode cX12_heard 78 = .ok (.goto (-43), 3) := by decide +kernel
theorem dX12_heard_81 : decode cX12_heard 81 = .ok (.aload_n 0, 1) := by decide +kernel
theorem dX12_heard_82 : decode cX12_heard 82 = .ok (.getfield 42, 3) := by decide +kernel
theorem dX12_heard_85 : decode cX12_heard 85 = .ok (.ifCond .le 7, 3) := by decide +kernel
theorem dX12_heard_88 : decode cX12_heard 88 = .ok (.iconst 0, 1) := by decide +kernel
theorem dX12_heard_89 : decode cX12_heard 89 = .ok (.goto 5, 3) := by decide +kernel
theorem dX12_heard_92 : decode cX12_heard 92 = .ok (.iload 4, 2) := by decide +kernel
theorem dX12_heard_94 : decode cX12_heard 94 = .ok (.ireturn, 1) := by decide +kernel
theorem k_X12_heard : cardV yX12_heard (Cond.code yX12_heard cX12_heard 6 (some .int)) 3 := ⟨⟨qi_X12_heard, qv_X12_heard⟩, qc_X12_heard, qn_X12, by decide +kernel, by decide +kernel, by decide +kernel⟩
set_option maxHeartbeats 4000000 in
set_option maxRecDepth 100000 in
theorem c_X12_heard (l : Launch) (D : va_G) (g : Nat → ClassId) (q_this q_s q_before q_saved q_past q_steps q_goes q_line q_text q_orders : Nat) (p1 p2 p3 : Int32) (f_isSaved : Int32) (f_pastMany : Int32) (f_thrown : Int32) (f_reason : Int32) (f_detail : Int32) (f_isRefused : Int32) (f_goesMany : Int32) (f_roundSteps : Int32) (f_lineMany : Int32) (f_length : Int32) (f_at : Int32) (f_isWrong : Int32) (f_errorAt : Int32) (f_orderMany : Int32) (a_s : Nat → Int32) (o : Int32 × Int32) (h : F_X12_heard p1 p2 p3 a_s f_thrown = some o) : MW l yX12_heard (Cond.code yX12_heard cX12_heard 6 (some .int)) { frames := 4, cells := 0, slots := 0, locals := 108 } D g [.ref q_this, .int p1, .int p2, .int p3] [(q_this, .inr (12, [.ref q_s, .ref q_before, .ref q_saved, .int f_isSaved, .ref q_past, .int f_pastMany, .int f_thrown, .int f_reason, .int f_detail, .int f_isRefused, .ref q_steps, .ref q_goes, .int f_goesMany, .int f_roundSteps, .ref q_line, .int f_lineMany, .ref q_text, .int f_length, .int f_at, .int f_isWrong, .int f_errorAt, .ref q_orders, .int f_orderMany])), (q_s, .inl (g 0, 147, .inl a_s))] (some (.int o.1)) [(q_this, .inr (12, [.ref q_s, .ref q_before, .ref q_saved, .int f_isSaved, .ref q_past, .int f_pastMany, .int o.2, .int f_reason, .int f_detail, .int f_isRefused, .ref q_steps, .ref q_goes, .int f_goesMany, .int f_roundSteps, .ref q_line, .int f_lineMany, .ref q_text, .int f_length, .int f_at, .int f_isWrong, .int f_errorAt, .ref q_orders, .int f_orderMany])), (q_s, .inl (g 0, 147, .inl a_s))] := by
  refine z_wr_start (by decide) (Nat.le_of_ble_eq_true rfl) ?_
  intro p e s m args below meth c Q A X hr hQ hA
  refine z_lv (lv' := [(0, .ref q_this), (1, .int p1), (2, .int p2), (3, .int p3)]) rfl ?_
  have H81 : ∀ (x4 : Int32) (f_thrown : Int32), J_X12_heard_81 p1 p2 p3 a_s x4 f_thrown = some o → Z p l e { frames := 4, cells := 0, slots := 0, locals := 108 } s m args below meth c Q 6 0 0 (IW D A s [(q_this, .inr (12, [.ref q_s, .ref q_before, .ref q_saved, .int f_isSaved, .ref q_past, .int f_pastMany, .int f_thrown, .int f_reason, .int f_detail, .int f_isRefused, .ref q_steps, .ref q_goes, .int f_goesMany, .int f_roundSteps, .ref q_line, .int f_lineMany, .ref q_text, .int f_length, .int f_at, .int f_isWrong, .int f_errorAt, .ref q_orders, .int f_orderMany])), (q_s, .inl (g 0, 147, .inl a_s))]) 81 [(0, .ref q_this), (4, .int x4)] [] := by
    intro x4 f_thrown h
    refine z_aload_n X 0 dX12_heard_81 rfl rfl ?_
    refine z_get (q0 := 0) (k := 6) (ci := 12) X IW_P iw_X12 rfl qf_X12_X12_thrown (by decide) dX12_heard_82 rfl rfl ?_
    refine z_if_le X 92 dX12_heard_85 (by decide) h (fun _ h => ?_) (fun _ h => ?_)
    · refine z_iload X 1 dX12_heard_92 rfl ?_
      cases h
      exact z_iretW X hQ hA hr dX12_heard_94
    · refine z_iconst X (0 : Int32) dX12_heard_88 (by decide) ?_
      refine z_goto X 94 dX12_heard_89 (by decide) ?_
      cases h
      exact z_iretW X hQ hA hr dX12_heard_94
  have H35 : ∀ (n : Nat) (x4 : Int32) (x5 : Int32) (f_thrown : Int32), L_X12_heard_35 p1 p2 p3 a_s  n x4 x5 f_thrown = some o → Z p l e { frames := 4, cells := 0, slots := 0, locals := 108 } s m args below meth c Q 6 0 0 (IW D A s [(q_this, .inr (12, [.ref q_s, .ref q_before, .ref q_saved, .int f_isSaved, .ref q_past, .int f_pastMany, .int f_thrown, .int f_reason, .int f_detail, .int f_isRefused, .ref q_steps, .ref q_goes, .int f_goesMany, .int f_roundSteps, .ref q_line, .int f_lineMany, .ref q_text, .int f_length, .int f_at, .int f_isWrong, .int f_errorAt, .ref q_orders, .int f_orderMany])), (q_s, .inl (g 0, 147, .inl a_s))]) 35 [(0, .ref q_this), (1, .int p1), (2, .int p2), (3, .int p3), (4, .int x4), (5, .int x5)] [] := by
    intro n
    induction n with
    | zero => intro x4 x5 f_thrown h; cases h
    | succ n35 ih35 =>
      intro x4 x5 f_thrown h
      have H72 : ∀ (t0 : Int32) (t1 : Int32) (x5 : Int32) (f_thrown : Int32), J_X12_heard_72 p1 p2 p3 a_s (L_X12_heard_35 p1 p2 p3 a_s n35) t0 t1 x5 f_thrown = some o → Z p l e { frames := 4, cells := 0, slots := 0, locals := 108 } s m args below meth c Q 6 0 0 (IW D A s [(q_this, .inr (12, [.ref q_s, .ref q_before, .ref q_saved, .int f_isSaved, .ref q_past, .int f_pastMany, .int f_thrown, .int f_reason, .int f_detail, .int f_isRefused, .ref q_steps, .ref q_goes, .int f_goesMany, .int f_roundSteps, .ref q_line, .int f_lineMany, .ref q_text, .int f_length, .int f_at, .int f_isWrong, .int f_errorAt, .ref q_orders, .int f_orderMany])), (q_s, .inl (g 0, 147, .inl a_s))]) 72 [(0, .ref q_this), (1, .int p1), (2, .int p2), (3, .int p3), (5, .int x5)] [.int t0, .int t1] := by
        intro t0 t1 x5 f_thrown h
        refine z_iadd X dX12_heard_72 ?_
        refine z_istore X [(4, .int (t1 + t0)), (0, .ref q_this), (1, .int p1), (2, .int p2), (3, .int p3), (5, .int x5)] dX12_heard_73 (by decide) rfl ?_
        refine z_iinc X 5 [(5, .int (x5 + 1)), (4, .int (t1 + t0)), (0, .ref q_this), (1, .int p1), (2, .int p2), (3, .int p3)] dX12_heard_75 rfl rfl (by decide) rfl ?_
        refine z_goto X 35 dX12_heard_78 (by decide) ?_
        refine z_sub (lv' := [(0, .ref q_this), (1, .int p1), (2, .int p2), (3, .int p3), (4, .int (t1 + t0)), (5, .int (x5 + 1))]) [2, 3, 4, 5, 1, 0] rfl ?_
        exact ih35 (t1 + t0) (x5 + 1) f_thrown h
      refine z_iload X 5 dX12_heard_35 rfl ?_
      refine z_aload_n X 0 dX12_heard_37 rfl rfl ?_
      refine z_get (q0 := 0) (k := 0) (ci := 12) X IW_P iw_X12 rfl qf_X12_X12_s (by decide) dX12_heard_38 rfl rfl ?_
      refine z_iconst X (2 : Int32) dX12_heard_41 (by decide) ?_
      refine z_iald (q0 := 1) X IW_P dX12_heard_42 rfl h (fun h => ?_)
      refine z_icmp_ge X 81 dX12_heard_43 (by decide) h (fun _ h => ?_) (fun _ h => ?_)
      · refine z_sub (lv' := [(0, .ref q_this), (4, .int x4)]) [0, 4] rfl ?_
        exact H81 x4 f_thrown h
      · refine z_aload_n X 0 dX12_heard_46 rfl rfl ?_
        refine z_get (q0 := 0) (k := 6) (ci := 12) X IW_P iw_X12 rfl qf_X12_X12_thrown (by decide) dX12_heard_47 rfl rfl ?_
        refine z_if_ne X 81 dX12_heard_50 (by decide) h (fun _ h => ?_) (fun _ h => ?_)
        · refine z_iload X 4 dX12_heard_53 rfl ?_
          refine z_aload_n X 0 dX12_heard_55 rfl rfl ?_
          refine z_iload_n X 1 dX12_heard_56 rfl rfl ?_
          refine z_iload X 5 dX12_heard_57 rfl ?_
          refine z_iload_n X 2 dX12_heard_59 rfl rfl ?_
          refine z_iload_n X 3 dX12_heard_60 rfl rfl ?_
          obtain ⟨o3, e4, h⟩ := bnd_p h
          refine z_rdV (rest := [.int x4]) (q0 := 0) (ci := 12) X IW_P k_X12_echoes (c_X12_echoes l D g q_this q_s q_before q_saved q_past q_steps q_goes q_line q_text q_orders p1 x5 p2 p3 f_isSaved f_pastMany f_thrown f_reason f_detail f_isRefused f_goesMany f_roundSteps f_lineMany f_length f_at f_isWrong f_errorAt f_orderMany a_s o3 e4) ql_X12_X12_echoes dX12_heard_61 [0, 1] rfl rfl rfl rfl rfl rfl ⟨Nat.le_of_ble_eq_true rfl, Nat.le_of_ble_eq_true rfl, rfl, rfl, Nat.le_of_ble_eq_true rfl, Nat.le_of_ble_eq_true rfl⟩ (Nat.le_of_ble_eq_true rfl) ?_
          refine z_if_eq X 71 dX12_heard_64 (by decide) h (fun _ h => ?_) (fun _ h => ?_)
          · refine z_iconst X (0 : Int32) dX12_heard_71 (by decide) ?_
            refine z_sub (lv' := [(0, .ref q_this), (1, .int p1), (2, .int p2), (3, .int p3), (5, .int x5)]) [0, 1, 2, 3, 5] rfl ?_
            exact H72 (0 : Int32) x4 x5 f_thrown h
          · refine z_iconst X (1 : Int32) dX12_heard_67 (by decide) ?_
            refine z_goto X 72 dX12_heard_68 (by decide) ?_
            refine z_sub (lv' := [(0, .ref q_this), (1, .int p1), (2, .int p2), (3, .int p3), (5, .int x5)]) [0, 1, 2, 3, 5] rfl ?_
            exact H72 (1 : Int32) x4 x5 f_thrown h
        · refine z_sub (lv' := [(0, .ref q_this), (4, .int x4)]) [0, 4] rfl ?_
          exact H81 x4 f_thrown h
  have H26 : ∀ (t0 : Int32) (f_thrown : Int32), J_X12_heard_26 p1 p2 p3 a_s t0 f_thrown = some o → Z p l e { frames := 4, cells := 0, slots := 0, locals := 108 } s m args below meth c Q 6 0 0 (IW D A s [(q_this, .inr (12, [.ref q_s, .ref q_before, .ref q_saved, .int f_isSaved, .ref q_past, .int f_pastMany, .int f_thrown, .int f_reason, .int f_detail, .int f_isRefused, .ref q_steps, .ref q_goes, .int f_goesMany, .int f_roundSteps, .ref q_line, .int f_lineMany, .ref q_text, .int f_length, .int f_at, .int f_isWrong, .int f_errorAt, .ref q_orders, .int f_orderMany])), (q_s, .inl (g 0, 147, .inl a_s))]) 26 [(0, .ref q_this), (1, .int p1), (2, .int p2), (3, .int p3)] [.int t0, .ref q_this] := by
    intro t0 f_thrown h
    refine z_put (q0 := 0) (k := 6) (ci := 12) (ws' := [(q_this, .inr (12, [.ref q_s, .ref q_before, .ref q_saved, .int f_isSaved, .ref q_past, .int f_pastMany, .int t0, .int f_reason, .int f_detail, .int f_isRefused, .ref q_steps, .ref q_goes, .int f_goesMany, .int f_roundSteps, .ref q_line, .int f_lineMany, .ref q_text, .int f_length, .int f_at, .int f_isWrong, .int f_errorAt, .ref q_orders, .int f_orderMany])), (q_s, .inl (g 0, 147, .inl a_s))]) X iw_X12 tyX12_ok nmX12 rfl qf_X12_X12_thrown (by decide) rfl rfl dX12_heard_26 rfl rfl rfl (Nat.le_of_ble_eq_true rfl) rfl ?_
    refine z_iconst X (1 : Int32) dX12_heard_29 (by decide) ?_
    refine z_istore X [(4, .int (1 : Int32)), (0, .ref q_this), (1, .int p1), (2, .int p2), (3, .int p3)] dX12_heard_30 (by decide) rfl ?_
    refine z_iconst X (0 : Int32) dX12_heard_32 (by decide) ?_
    refine z_istore X [(5, .int (0 : Int32)), (4, .int (1 : Int32)), (0, .ref q_this), (1, .int p1), (2, .int p2), (3, .int p3)] dX12_heard_33 (by decide) rfl ?_
    refine z_sub (lv' := [(0, .ref q_this), (1, .int p1), (2, .int p2), (3, .int p3), (4, .int (1 : Int32)), (5, .int (0 : Int32))]) [2, 3, 4, 5, 1, 0] rfl ?_
    exact H35 100 (1 : Int32) (0 : Int32) t0 h
  refine z_aload_n X 0 dX12_heard_0 rfl rfl ?_
  refine z_aload_n X 0 dX12_heard_1 rfl rfl ?_
  refine z_iload_n X 1 dX12_heard_2 rfl rfl ?_
  obtain ⟨o1, e2, h⟩ := bnd_p h
  refine z_rdV (rest := [.ref q_this]) (q0 := 0) (ci := 12) X IW_P k_X12_isHouse (c_X12_isHouse l D g q_this q_s q_before q_saved q_past q_steps q_goes q_line q_text q_orders p1 f_isSaved f_pastMany f_thrown f_reason f_detail f_isRefused f_goesMany f_roundSteps f_lineMany f_length f_at f_isWrong f_errorAt f_orderMany a_s o1 e2) ql_X12_X12_isHouse dX12_heard_3 [0, 1] rfl rfl rfl rfl rfl rfl ⟨Nat.le_of_ble_eq_true rfl, Nat.le_of_ble_eq_true rfl, rfl, rfl, Nat.le_of_ble_eq_true rfl, Nat.le_of_ble_eq_true rfl⟩ (Nat.le_of_ble_eq_true rfl) ?_
  refine z_if_ne X 13 dX12_heard_6 (by decide) h (fun _ h => ?_) (fun _ h => ?_)
  · refine z_iconst X (1 : Int32) dX12_heard_9 (by decide) ?_
    refine z_goto X 26 dX12_heard_10 (by decide) ?_
    exact H26 (1 : Int32) f_thrown h
  · refine z_iload_n X 2 dX12_heard_13 rfl rfl ?_
    refine z_iload_n X 3 dX12_heard_14 rfl rfl ?_
    obtain ⟨o5, e6, h⟩ := bnd_p h
    refine z_rdS (rest := [.ref q_this]) X IW_P k_X12_areTones (c_X12_areTones l D g p2 p3 o5 e6) ql_X12_X12_areTones dX12_heard_15 [] rfl rfl rfl ⟨Nat.le_of_ble_eq_true rfl, Nat.le_of_ble_eq_true rfl, rfl, rfl, Nat.le_of_ble_eq_true rfl, Nat.le_of_ble_eq_true rfl⟩ (Nat.le_of_ble_eq_true rfl) ?_
    refine z_if_ne X 25 dX12_heard_18 (by decide) h (fun _ h => ?_) (fun _ h => ?_)
    · refine z_iconst X (2 : Int32) dX12_heard_21 (by decide) ?_
      refine z_goto X 26 dX12_heard_22 (by decide) ?_
      exact H26 (2 : Int32) f_thrown h
    · refine z_iconst X (0 : Int32) dX12_heard_25 (by decide) ?_
      exact H26 (0 : Int32) f_thrown h
