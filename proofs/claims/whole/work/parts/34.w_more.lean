def L_X3_kindOf_2 (p0 : Int32) : Nat → Int32 → Option (Int32)
  | 0, _ => none
  | _n + 1, x1 =>
    brn ((7 : Int32) ≤ x1) (some (((-1) : Int32))) (grd (inb x1 7) (brn ((sStI x1.toNatClampNeg) = p0) (some (x1)) (L_X3_kindOf_2 p0 _n (x1 + 1))))

def F_X3_kindOf (p0 : Int32) : Option (Int32) :=
  L_X3_kindOf_2 p0 100 (0 : Int32)
theorem dX3_kindOf_0 : decode cX3_kindOf 0 = .ok (.iconst 0, 1) := by decide +kernel
theorem dX3_kindOf_1 : decode cX3_kindOf 1 = .ok (.istore_n 1, 1) := by decide +kernel
theorem dX3_kindOf_2 : decode cX3_kindOf 2 = .ok (.iload_n 1, 1) := by decide +kernel
theorem dX3_kindOf_3 : decode cX3_kindOf 3 = .ok (.getstatic 69, 3) := by decide +kernel
theorem dX3_kindOf_6 : decode cX3_kindOf 6 = .ok (.arraylength, 1) := by decide +kernel
theorem dX3_kindOf_7 : decode cX3_kindOf 7 = .ok (.if_icmp .ge 20, 3) := by decide +kernel
theorem dX3_kindOf_10 : decode cX3_kindOf 10 = .ok (.getstatic 69, 3) := by decide +kernel
theorem dX3_kindOf_13 : decode cX3_kindOf 13 = .ok (.iload_n 1, 1) := by decide +kernel
theorem dX3_kindOf_14 : decode cX3_kindOf 14 = .ok (.caload, 1) := by decide +kernel
theorem dX3_kindOf_15 : decode cX3_kindOf 15 = .ok (.iload_n 0, 1) := by decide +kernel
theorem dX3_kindOf_16 : decode cX3_kindOf 16 = .ok (.if_icmp .ne 5, 3) := by decide +kernel
theorem dX3_kindOf_19 : decode cX3_kindOf 19 = .ok (.iload_n 1, 1) := by decide +kernel
theorem dX3_kindOf_20 : decode cX3_kindOf 20 = .ok (.ireturn, 1) := by decide +kernel
theorem dX3_kindOf_21 : decode cX3_kindOf 21 = .ok (.iinc 1 1, 3) := by decide +kernel
theorem dX3_kindOf_24 : decode cX3_kindOf 24 = .ok (.goto (-22), 3) := by decide +kernel
theorem dX3_kindOf_27 : decode cX3_kindOf 27 = .ok (.iconst (-1), 1) := by decide +kernel
theorem dX3_kindOf_28 : decode cX3_kindOf 28 = .ok (.ireturn, 1) := by decide +kernel
theorem k_X3_kindOf : cardS yX3_kindOf (Cond.code yX3_kindOf cX3_kindOf 2 (some .int)) 1 := ⟨qs_X3_kindOf, qc_X3_kindOf, qn_X3, by decide +kernel, by decide +kernel, by decide +kernel⟩
set_option maxHeartbeats 4000000 in
set_option maxRecDepth 100000 in
theorem c_X3_kindOf (l : Launch) (ak av : Nat → Nat) (aS : Nat) (D : va_G) (g : Nat → ClassId) (p0 : Int32) (o : Int32) (h : F_X3_kindOf p0 = some o) : ME l yX3_kindOf (Cond.code yX3_kindOf cX3_kindOf 2 (some .int)) { frames := 0, cells := 0, slots := 0, locals := 0 } ak av aS D g [.int p0] (some (.int o)) := by
  refine z_ed_start (by decide) (Nat.le_of_ble_eq_true rfl) ?_
  intro p e s m args below meth c Q X hr hE hQ
  refine z_lv (lv' := [(0, .int p0)]) rfl ?_
  have H2 : ∀ (n : Nat) (x1 : Int32), L_X3_kindOf_2 p0  n x1 = some o → Z p l e { frames := 0, cells := 0, slots := 0, locals := 0 } s m args below meth c Q 2 0 0 (IR D [] s) 2 [(0, .int p0), (1, .int x1)] [] := by
    intro n
    induction n with
    | zero => intro x1 h; cases h
    | succ n2 ih2 =>
      intro x1 h
      refine z_iload_n X 1 dX3_kindOf_2 rfl rfl ?_
      refine z_gets X IR_S hE.2.1.1.1 qf_X3_X3_STARTS dX3_kindOf_3 ?_
      refine z_tlen (v := (7 : Int32)) X IR_S hE.2.1.1.2 rfl dX3_kindOf_6 ?_
      refine z_icmp_ge X 27 dX3_kindOf_7 (by decide) h (fun _ h => ?_) (fun _ h => ?_)
      · refine z_iconst X ((-1) : Int32) dX3_kindOf_27 (by decide) ?_
        exact z_iretR X hQ hr dX3_kindOf_28 h
      · refine z_gets X IR_S hE.2.1.1.1 qf_X3_X3_STARTS dX3_kindOf_10 ?_
        refine z_iload_n X 1 dX3_kindOf_13 rfl rfl ?_
        refine z_tc (v := .int (sStI x1.toNatClampNeg)) X IR_S hE.2.1.1.2 h rfl dX3_kindOf_14 (fun h => ?_)
        refine z_iload_n X 0 dX3_kindOf_15 rfl rfl ?_
        refine z_icmp_ne X 21 dX3_kindOf_16 (by decide) h (fun _ h => ?_) (fun _ h => ?_)
        · refine z_iload_n X 1 dX3_kindOf_19 rfl rfl ?_
          exact z_iretR X hQ hr dX3_kindOf_20 h
        · refine z_iinc X 1 [(1, .int (x1 + 1)), (0, .int p0)] dX3_kindOf_21 rfl rfl (by decide) rfl ?_
          refine z_goto X 2 dX3_kindOf_24 (by decide) ?_
          refine z_sub (lv' := [(0, .int p0), (1, .int (x1 + 1))]) [1, 0] rfl ?_
          exact ih2 (x1 + 1) h
  refine z_iconst X (0 : Int32) dX3_kindOf_0 (by decide) ?_
  refine z_istore_n X [(1, .int (0 : Int32)), (0, .int p0)] dX3_kindOf_1 rfl (by decide) rfl ?_
  refine z_sub (lv' := [(0, .int p0), (1, .int (0 : Int32))]) [1, 0] rfl ?_
  exact H2 100 (0 : Int32) h

def F_X3_formOf (p0 : Int32) : Option (Nat) :=
  brn (p0 = (0 : Int32)) (some (6)) (brn (p0 = (2 : Int32)) (some (7)) (brn (p0 = (3 : Int32)) (some (8)) (brn (p0 = (5 : Int32)) (some (9)) (some (10)))))
theorem dX3_formOf_0 : decode cX3_formOf 0 = .ok (.iload_n 0, 1) := by decide +kernel
theorem dX3_formOf_1 : decode cX3_formOf 1 = .ok (.tableswitch 51 0 5 #[39, 51, 42, 45, 51, 48], 39) := by decide +kernel
theorem dX3_formOf_40 : decode cX3_formOf 40 = .ok (.ldc 72, 2) := by decide +kernel
theorem dX3_formOf_42 : decode cX3_formOf 42 = .ok (.areturn, 1) := by decide +kernel
theorem dX3_formOf_43 : decode cX3_formOf 43 = .ok (.ldc 74, 2) := by decide +kernel
theorem dX3_formOf_45 : decode cX3_formOf 45 = .ok (.areturn, 1) := by decide +kernel
theorem dX3_formOf_46 : decode cX3_formOf 46 = .ok (.ldc 76, 2) := by decide +kernel
theorem dX3_formOf_48 : decode cX3_formOf 48 = .ok (.areturn, 1) := by decide +kernel
theorem dX3_formOf_49 : decode cX3_formOf 49 = .ok (.ldc 78, 2) := by decide +kernel
theorem dX3_formOf_51 : decode cX3_formOf 51 = .ok (.areturn, 1) := by decide +kernel
theorem dX3_formOf_52 : decode cX3_formOf 52 = .ok (.ldc 80, 2) := by decide +kernel
theorem dX3_formOf_54 : decode cX3_formOf 54 = .ok (.areturn, 1) := by decide +kernel
theorem k_X3_formOf : cardS yX3_formOf (Cond.code yX3_formOf cX3_formOf 1 (some (.object "java/lang/String"))) 1 := ⟨qs_X3_formOf, qc_X3_formOf, qn_X3, by decide +kernel, by decide +kernel, by decide +kernel⟩
set_option maxHeartbeats 4000000 in
set_option maxRecDepth 100000 in
theorem c_X3_formOf (l : Launch) (ak av : Nat → Nat) (aS : Nat) (D : va_G) (g : Nat → ClassId) (p0 : Int32) (o : Nat) (h : F_X3_formOf p0 = some o) : ME l yX3_formOf (Cond.code yX3_formOf cX3_formOf 1 (some (.object "java/lang/String"))) { frames := 0, cells := 0, slots := 0, locals := 0 } ak av aS D g [.int p0] (some (.ref (ak o))) := by
  refine z_ed_start (by decide) (Nat.le_of_ble_eq_true rfl) ?_
  intro p e s m args below meth c Q X hr hE hQ
  refine z_lv (lv' := [(0, .int p0)]) rfl ?_
  refine z_iload_n X 0 dX3_formOf_0 rfl rfl ?_
  by_cases n1 : p0 = (0 : Int32)
  · have h := brn_t h n1
    refine z_tin (off := 39) 40 X dX3_formOf_1 (sw_eq (k := 0) n1 (by decide)) (by decide) (by decide) (by decide) (by decide) ?_
    refine z_ldcS (si := 6) X hE (by decide) rfl rfl dX3_formOf_40 ?_
    cases h
    exact z_aretR X hQ hr ⟨_, rfl⟩ dX3_formOf_42
  have h := brn_f h n1
  by_cases n2 : p0 = (2 : Int32)
  · have h := brn_t h n2
    refine z_tin (off := 42) 43 X dX3_formOf_1 (sw_eq (k := 2) n2 (by decide)) (by decide) (by decide) (by decide) (by decide) ?_
    refine z_ldcS (si := 7) X hE (by decide) rfl rfl dX3_formOf_43 ?_
    cases h
    exact z_aretR X hQ hr ⟨_, rfl⟩ dX3_formOf_45
  have h := brn_f h n2
  by_cases n3 : p0 = (3 : Int32)
  · have h := brn_t h n3
    refine z_tin (off := 45) 46 X dX3_formOf_1 (sw_eq (k := 3) n3 (by decide)) (by decide) (by decide) (by decide) (by decide) ?_
    refine z_ldcS (si := 8) X hE (by decide) rfl rfl dX3_formOf_46 ?_
    cases h
    exact z_aretR X hQ hr ⟨_, rfl⟩ dX3_formOf_48
  have h := brn_f h n3
  by_cases n4 : p0 = (5 : Int32)
  · have h := brn_t h n4
    refine z_tin (off := 48) 49 X dX3_formOf_1 (sw_eq (k := 5) n4 (by decide)) (by decide) (by decide) (by decide) (by decide) ?_
    refine z_ldcS (si := 9) X hE (by decide) rfl rfl dX3_formOf_49 ?_
    cases h
    exact z_aretR X hQ hr ⟨_, rfl⟩ dX3_formOf_51
  have h := brn_f h n4
  refine z_tdef 52 [0, 2, 3, 5] X dX3_formOf_1 (by decide) (by decide) (List.forall_mem_cons.mpr ⟨sw_ne n1 (by decide), List.forall_mem_cons.mpr ⟨sw_ne n2 (by decide), List.forall_mem_cons.mpr ⟨sw_ne n3 (by decide), List.forall_mem_cons.mpr ⟨sw_ne n4 (by decide), fun _ hk => absurd hk List.not_mem_nil⟩⟩⟩⟩) (by decide) ?_
  refine z_ldcS (si := 10) X hE (by decide) rfl rfl dX3_formOf_52 ?_
  cases h
  exact z_aretR X hQ hr ⟨_, rfl⟩ dX3_formOf_54

def J_X12_saysNumber0_14 (p1 : Int32) (f_lineMany : Int32) (a_line : Nat → Int32) : Option (Int32 × (Nat → Int32)) :=
  bnd (F_X12_says ((((48 : Int32) + (p1 - p1 / (10 : Int32) * (10 : Int32))).toUInt32 % 65536).toInt32) f_lineMany a_line) (fun o1 => some (o1.1, o1.2))

def F_X12_saysNumber0 (p1 : Int32) (f_lineMany : Int32) (a_line : Nat → Int32) : Option (Int32 × (Nat → Int32)) :=
  brn (p1 ≤ (9 : Int32)) (J_X12_saysNumber0_14 p1 f_lineMany a_line) (none)

theorem dX12_saysNumber_0 : decode cX12_saysNumber 0 = .ok (.iload_n 1, 1) := by decide +kernel
theorem dX12_saysNumber_1 : decode cX12_saysNumber 1 = .ok (.bipush 9, 2) := by decide +kernel
theorem dX12_saysNumber_3 : decode cX12_saysNumber 3 = .ok (.if_icmp .le 11, 3) := by decide +kernel
theorem dX12_saysNumber_6 : decode cX12_saysNumber 6 = .ok (.aload_n 0, 1) := by decide +kernel
theorem dX12_saysNumber_7 : decode cX12_saysNumber 7 = .ok (.iload_n 1, 1) := by decide +kernel
theorem dX12_saysNumber_8 : decode cX12_saysNumber 8 = .ok (.bipush 10, 2) := by decide +kernel
theorem dX12_saysNumber_10 : decode cX12_saysNumber 10 = .ok (.idiv, 1) := by decide +kernel
theorem dX12_saysNumber_11 : decode cX12_saysNumber 11 = .ok (.invokevirtual 211, 3) := by decide +kernel
theorem dX12_saysNumber_14 : decode cX12_saysNumber 14 = .ok (.aload_n 0, 1) := by decide +kernel
theorem dX12_saysNumber_15 : decode cX12_saysNumber 15 = .ok (.bipush 48, 2) := by decide +kernel
theorem dX12_saysNumber_17 : decode cX12_saysNumber 17 = .ok (.iload_n 1, 1) := by decide +kernel
theorem dX12_saysNumber_18 : decode cX12_saysNumber 18 = .ok (.bipush 10, 2) := by decide +kernel
theorem dX12_saysNumber_20 : decode cX12_saysNumber 20 = .ok (.irem, 1) := by decide +kernel
theorem dX12_saysNumber_21 : decode cX12_saysNumber 21 = .ok (.iadd, 1) := by decide +kernel
theorem dX12_saysNumber_22 : decode cX12_saysNumber 22 = .ok (.i2c, 1) := by decide +kernel
theorem dX12_saysNumber_23 : decode cX12_saysNumber 23 = .ok (.invokevirtual 214, 3) := by decide +kernel
theorem dX12_saysNumber_26 : decode cX12_saysNumber 26 = .ok (.return_, 1) := by decide +kernel
theorem k_X12_saysNumber : cardV yX12_saysNumber (Cond.code yX12_saysNumber cX12_saysNumber 2 none) 1 := ⟨⟨qi_X12_saysNumber, qv_X12_saysNumber⟩, qc_X12_saysNumber, qn_X12, by decide +kernel, by decide +kernel, by decide +kernel⟩
set_option maxHeartbeats 4000000 in
set_option maxRecDepth 100000 in
theorem c_X12_saysNumber0 (l : Launch) (D : va_G) (g : Nat → ClassId) (q_this q_s q_before q_saved q_past q_steps q_goes q_line q_text q_orders : Nat) (p1 : Int32) (f_isSaved : Int32) (f_pastMany : Int32) (f_thrown : Int32) (f_reason : Int32) (f_detail : Int32) (f_isRefused : Int32) (f_goesMany : Int32) (f_roundSteps : Int32) (f_lineMany : Int32) (f_length : Int32) (f_at : Int32) (f_isWrong : Int32) (f_errorAt : Int32) (f_orderMany : Int32) (a_line : Nat → Int32) (o : Int32 × (Nat → Int32)) (h : F_X12_saysNumber0 p1 f_lineMany a_line = some o) : MW l yX12_saysNumber (Cond.code yX12_saysNumber cX12_saysNumber 2 none) { frames := 1, cells := 0, slots := 0, locals := 21 } D g [.ref q_this, .int p1] [(q_this, .inr (12, [.ref q_s, .ref q_before, .ref q_saved, .int f_isSaved, .ref q_past, .int f_pastMany, .int f_thrown, .int f_reason, .int f_detail, .int f_isRefused, .ref q_steps, .ref q_goes, .int f_goesMany, .int f_roundSteps, .ref q_line, .int f_lineMany, .ref q_text, .int f_length, .int f_at, .int f_isWrong, .int f_errorAt, .ref q_orders, .int f_orderMany])), (q_line, .inl (g 1, 40, .inl a_line))] none [(q_this, .inr (12, [.ref q_s, .ref q_before, .ref q_saved, .int f_isSaved, .ref q_past, .int f_pastMany, .int f_thrown, .int f_reason, .int f_detail, .int f_isRefused, .ref q_steps, .ref q_goes, .int f_goesMany, .int f_roundSteps, .ref q_line, .int o.1, .ref q_text, .int f_length, .int f_at, .int f_isWrong, .int f_errorAt, .ref q_orders, .int f_orderMany])), (q_line, .inl (g 1, 40, .inl o.2))] := by
  refine z_wr_start (by decide) (Nat.le_of_ble_eq_true rfl) ?_
  intro p e s m args below meth c Q A X hr hQ hA
  refine z_lv (lv' := [(0, .ref q_this), (1, .int p1)]) rfl ?_
  have H14 : ∀ (f_lineMany : Int32) (a_line : Nat → Int32), J_X12_saysNumber0_14 p1 f_lineMany a_line = some o → Z p l e { frames := 1, cells := 0, slots := 0, locals := 21 } s m args below meth c Q 2 0 0 (IW D A s [(q_this, .inr (12, [.ref q_s, .ref q_before, .ref q_saved, .int f_isSaved, .ref q_past, .int f_pastMany, .int f_thrown, .int f_reason, .int f_detail, .int f_isRefused, .ref q_steps, .ref q_goes, .int f_goesMany, .int f_roundSteps, .ref q_line, .int f_lineMany, .ref q_text, .int f_length, .int f_at, .int f_isWrong, .int f_errorAt, .ref q_orders, .int f_orderMany])), (q_line, .inl (g 1, 40, .inl a_line))]) 14 [(0, .ref q_this), (1, .int p1)] [] := by
    intro f_lineMany a_line h
    refine z_aload_n X 0 dX12_saysNumber_14 rfl rfl ?_
    refine z_bipush X (48 : Int32) dX12_saysNumber_15 (by decide) ?_
    refine z_iload_n X 1 dX12_saysNumber_17 rfl rfl ?_
    refine z_bipush X (10 : Int32) dX12_saysNumber_18 (by decide) ?_
    refine z_irem X dX12_saysNumber_20 (by decide) ?_
    refine z_iadd X dX12_saysNumber_21 ?_
    refine z_i2c X dX12_saysNumber_22 ?_
    obtain ⟨o1, e2, h⟩ := bnd_p h
    refine z_wrV (rest := []) (q0 := 0) (ci := 12) (ws' := [(q_this, .inr (12, [.ref q_s, .ref q_before, .ref q_saved, .int f_isSaved, .ref q_past, .int f_pastMany, .int f_thrown, .int f_reason, .int f_detail, .int f_isRefused, .ref q_steps, .ref q_goes, .int f_goesMany, .int f_roundSteps, .ref q_line, .int o1.1, .ref q_text, .int f_length, .int f_at, .int f_isWrong, .int f_errorAt, .ref q_orders, .int f_orderMany])), (q_line, .inl (g 1, 40, .inl o1.2))]) (wr := []) (as := [q_this, q_line]) X k_X12_says (c_X12_says l D g q_this q_s q_before q_saved q_past q_steps q_goes q_line q_text q_orders ((((48 : Int32) + (p1 - p1 / (10 : Int32) * (10 : Int32))).toUInt32 % 65536).toInt32) f_isSaved f_pastMany f_thrown f_reason f_detail f_isRefused f_goesMany f_roundSteps f_lineMany f_length f_at f_isWrong f_errorAt f_orderMany a_line o1 e2) ql_X12_X12_says dX12_saysNumber_23 [0, 1] [] ⟨rfl, rfl, rfl, rfl, rfl, rfl, rfl, rfl⟩ rfl rfl rfl rfl rfl ⟨Nat.le_of_ble_eq_true rfl, Nat.le_of_ble_eq_true rfl, rfl, rfl, Nat.le_of_ble_eq_true rfl, Nat.le_of_ble_eq_true rfl⟩ (Nat.le_of_ble_eq_true rfl) ?_
    cases h
    exact z_vretW X hQ hA hr dX12_saysNumber_26
  refine z_iload_n X 1 dX12_saysNumber_0 rfl rfl ?_
  refine z_bipush X (9 : Int32) dX12_saysNumber_1 (by decide) ?_
  refine z_icmp_le X 14 dX12_saysNumber_3 (by decide) h (fun _ h => ?_) (fun _ h => ?_)
  · exact H14 f_lineMany a_line h
  · cases h

def J_X12_saysNumber_14 (p1 : Int32) (f_lineMany : Int32) (a_line : Nat → Int32) : Option (Int32 × (Nat → Int32)) :=
  bnd (F_X12_says ((((48 : Int32) + (p1 - p1 / (10 : Int32) * (10 : Int32))).toUInt32 % 65536).toInt32) f_lineMany a_line) (fun o1 => some (o1.1, o1.2))

def F_X12_saysNumber (p1 : Int32) (f_lineMany : Int32) (a_line : Nat → Int32) : Option (Int32 × (Nat → Int32)) :=
  brn (p1 ≤ (9 : Int32)) (J_X12_saysNumber_14 p1 f_lineMany a_line) (bnd (F_X12_saysNumber0 (p1 / (10 : Int32)) f_lineMany a_line) (fun o3 => J_X12_saysNumber_14 p1 o3.1 o3.2))
set_option maxHeartbeats 4000000 in
set_option maxRecDepth 100000 in
theorem c_X12_saysNumber (l : Launch) (D : va_G) (g : Nat → ClassId) (q_this q_s q_before q_saved q_past q_steps q_goes q_line q_text q_orders : Nat) (p1 : Int32) (f_isSaved : Int32) (f_pastMany : Int32) (f_thrown : Int32) (f_reason : Int32) (f_detail : Int32) (f_isRefused : Int32) (f_goesMany : Int32) (f_roundSteps : Int32) (f_lineMany : Int32) (f_length : Int32) (f_at : Int32) (f_isWrong : Int32) (f_errorAt : Int32) (f_orderMany : Int32) (a_line : Nat → Int32) (o : Int32 × (Nat → Int32)) (h : F_X12_saysNumber p1 f_lineMany a_line = some o) : MW l yX12_saysNumber (Cond.code yX12_saysNumber cX12_saysNumber 2 none) { frames := 2, cells := 0, slots := 0, locals := 42 } D g [.ref q_this, .int p1] [(q_this, .inr (12, [.ref q_s, .ref q_before, .ref q_saved, .int f_isSaved, .ref q_past, .int f_pastMany, .int f_thrown, .int f_reason, .int f_detail, .int f_isRefused, .ref q_steps, .ref q_goes, .int f_goesMany, .int f_roundSteps, .ref q_line, .int f_lineMany, .ref q_text, .int f_length, .int f_at, .int f_isWrong, .int f_errorAt, .ref q_orders, .int f_orderMany])), (q_line, .inl (g 1, 40, .inl a_line))] none [(q_this, .inr (12, [.ref q_s, .ref q_before, .ref q_saved, .int f_isSaved, .ref q_past, .int f_pastMany, .int f_thrown, .int f_reason, .int f_detail, .int f_isRefused, .ref q_steps, .ref q_goes, .int f_goesMany, .int f_roundSteps, .ref q_line, .int o.1, .ref q_text, .int f_length, .int f_at, .int f_isWrong, .int f_errorAt, .ref q_orders, .int f_orderMany])), (q_line, .inl (g 1, 40, .inl o.2))] := by
  refine z_wr_start (by decide) (Nat.le_of_ble_eq_true rfl) ?_
  intro p e s m args below meth c Q A X hr hQ hA
  refine z_lv (lv' := [(0, .ref q_this), (1, .int p1)]) rfl ?_
  have H14 : ∀ (f_lineMany : Int32) (a_line : Nat → Int32), J_X12_saysNumber_14 p1 f_lineMany a_line = some o → Z p l e { frames := 2, cells := 0, slots := 0, locals := 42 } s m args below meth c Q 2 0 0 (IW D A s [(q_this, .inr (12, [.ref q_s, .ref q_before, .ref q_saved, .int f_isSaved, .ref q_past, .int f_pastMany, .int f_thrown, .int f_reason, .int f_detail, .int f_isRefused, .ref q_steps, .ref q_goes, .int f_goesMany, .int f_roundSteps, .ref q_line, .int f_lineMany, .ref q_text, .int f_length, .int f_at, .int f_isWrong, .int f_errorAt, .ref q_orders, .int f_orderMany])), (q_line, .inl (g 1, 40, .inl a_line))]) 14 [(0, .ref q_this), (1, .int p1)] [] := by
    intro f_lineMany a_line h
    refine z_aload_n X 0 dX12_saysNumber_14 rfl rfl ?_
    refine z_bipush X (48 : Int32) dX12_saysNumber_15 (by decide) ?_
    refine z_iload_n X 1 dX12_saysNumber_17 rfl rfl ?_
    refine z_bipush X (10 : Int32) dX12_saysNumber_18 (by decide) ?_
    refine z_irem X dX12_saysNumber_20 (by decide) ?_
    refine z_iadd X dX12_saysNumber_21 ?_
    refine z_i2c X dX12_saysNumber_22 ?_
    obtain ⟨o1, e2, h⟩ := bnd_p h
    refine z_wrV (rest := []) (q0 := 0) (ci := 12) (ws' := [(q_this, .inr (12, [.ref q_s, .ref q_before, .ref q_saved, .int f_isSaved, .ref q_past, .int f_pastMany, .int f_thrown, .int f_reason, .int f_detail, .int f_isRefused, .ref q_steps, .ref q_goes, .int f_goesMany, .int f_roundSteps, .ref q_line, .int o1.1, .ref q_text, .int f_length, .int f_at, .int f_isWrong, .int f_errorAt, .ref q_orders, .int f_orderMany])), (q_line, .inl (g 1, 40, .inl o1.2))]) (wr := []) (as := [q_this, q_line]) X k_X12_says (c_X12_says l D g q_this q_s q_before q_saved q_past q_steps q_goes q_line q_text q_orders ((((48 : Int32) + (p1 - p1 / (10 : Int32) * (10 : Int32))).toUInt32 % 65536).toInt32) f_isSaved f_pastMany f_thrown f_reason f_detail f_isRefused f_goesMany f_roundSteps f_lineMany f_length f_at f_isWrong f_errorAt f_orderMany a_line o1 e2) ql_X12_X12_says dX12_saysNumber_23 [0, 1] [] ⟨rfl, rfl, rfl, rfl, rfl, rfl, rfl, rfl⟩ rfl rfl rfl rfl rfl ⟨Nat.le_of_ble_eq_true rfl, Nat.le_of_ble_eq_true rfl, rfl, rfl, Nat.le_of_ble_eq_true rfl, Nat.le_of_ble_eq_true rfl⟩ (Nat.le_of_ble_eq_true rfl) ?_
    cases h
    exact z_vretW X hQ hA hr dX12_saysNumber_26
  refine z_iload_n X 1 dX12_saysNumber_0 rfl rfl ?_
  refine z_bipush X (9 : Int32) dX12_saysNumber_1 (by decide) ?_
  refine z_icmp_le X 14 dX12_saysNumber_3 (by decide) h (fun _ h => ?_) (fun _ h => ?_)
  · exact H14 f_lineMany a_line h
  · refine z_aload_n X 0 dX12_saysNumber_6 rfl rfl ?_
    refine z_iload_n X 1 dX12_saysNumber_7 rfl rfl ?_
    refine z_bipush X (10 : Int32) dX12_saysNumber_8 (by decide) ?_
    refine z_idiv X dX12_saysNumber_10 (by decide) ?_
    obtain ⟨o3, e4, h⟩ := bnd_p h
    refine z_wrV (rest := []) (q0 := 0) (ci := 12) (ws' := [(q_this, .inr (12, [.ref q_s, .ref q_before, .ref q_saved, .int f_isSaved, .ref q_past, .int f_pastMany, .int f_thrown, .int f_reason, .int f_detail, .int f_isRefused, .ref q_steps, .ref q_goes, .int f_goesMany, .int f_roundSteps, .ref q_line, .int o3.1, .ref q_text, .int f_length, .int f_at, .int f_isWrong, .int f_errorAt, .ref q_orders, .int f_orderMany])), (q_line, .inl (g 1, 40, .inl o3.2))]) (wr := []) (as := [q_this, q_line]) X k_X12_saysNumber (c_X12_saysNumber0 l D g q_this q_s q_before q_saved q_past q_steps q_goes q_line q_text q_orders (p1 / (10 : Int32)) f_isSaved f_pastMany f_thrown f_reason f_detail f_isRefused f_goesMany f_roundSteps f_lineMany f_length f_at f_isWrong f_errorAt f_orderMany a_line o3 e4) ql_X12_X12_saysNumber dX12_saysNumber_11 [0, 1] [] ⟨rfl, rfl, rfl, rfl, rfl, rfl, rfl, rfl⟩ rfl rfl rfl rfl rfl ⟨Nat.le_of_ble_eq_true rfl, Nat.le_of_ble_eq_true rfl, rfl, rfl, Nat.le_of_ble_eq_true rfl, Nat.le_of_ble_eq_true rfl⟩ (Nat.le_of_ble_eq_true rfl) ?_
    exact H14 o3.1 o3.2 h

def L_X12_houseLine_135 (p1 : Int32) (a_s : Nat → Int32) : Nat → Int32 → (Int32) → (Int32) → (Nat → Int32) → Option (Int32 × Int32 × Int32 × (Nat → Int32))
  | 0, _, _, _, _ => none
  | _n + 1, x2, f_thrown, f_lineMany, a_line =>
    brn (x2 ≤ 0) (some (f_lineMany, f_thrown, f_lineMany, a_line)) (bnd (F_X12_says (33 : Int32) f_lineMany a_line) (fun o17 => L_X12_houseLine_135 p1 a_s _n (x2 + (-1)) f_thrown o17.1 o17.2))

def J_X12_houseLine_119 (p1 : Int32) (a_s : Nat → Int32) (f_thrown : Int32) (f_lineMany : Int32) (a_line : Nat → Int32) : Option (Int32 × Int32 × Int32 × (Nat → Int32)) :=
  bnd (F_X12_at p1 (4 : Int32)) (fun o15 => grd (inb o15 147) (L_X12_houseLine_135 p1 a_s 100 (if (a_s o15.toNatClampNeg) < (9 : Int32) then (a_s o15.toNatClampNeg) else (9 : Int32)) f_thrown f_lineMany a_line))

def J_X12_houseLine_99 (p1 : Int32) (a_s : Nat → Int32) (f_thrown : Int32) (f_lineMany : Int32) (a_line : Nat → Int32) : Option (Int32 × Int32 × Int32 × (Nat → Int32)) :=
  grd (inb (0 : Int32) 147) (bnd (F_X12_sleeps p1 (a_s (0 : Int32).toNatClampNeg) a_s) (fun o13 => brn (o13 = 0) (J_X12_houseLine_119 p1 a_s f_thrown f_lineMany a_line) (bnd (F_X12_says (122 : Int32) f_lineMany a_line) (fun o19 => J_X12_houseLine_119 p1 a_s f_thrown o19.1 o19.2))))

def J_X12_houseLine_14 (p1 : Int32) (a_s : Nat → Int32) (t0 : Int32) (f_thrown : Int32) (f_lineMany : Int32) (a_line : Nat → Int32) : Option (Int32 × Int32 × Int32 × (Nat → Int32)) :=
  brn (t0 ≤ 0) (bnd (F_X12_saysNumber p1 (0 : Int32) a_line) (fun o3 => bnd (F_X12_says (64 : Int32) o3.1 o3.2) (fun o5 => bnd (F_X12_cellOf p1 a_s) (fun o7 => bnd (F_X12_saysNumber o7 o5.1 o5.2) (fun o9 => bnd (F_X12_sleep p1 a_s) (fun o11 => brn (o11 ≤ 0) (J_X12_houseLine_99 p1 a_s t0 o9.1 o9.2) (bnd (F_X12_says (32 : Int32) o9.1 o9.2) (fun o21 => bnd (F_X12_at p1 (1 : Int32)) (fun o23 => grd (inb o23 147) (bnd (F_X12_saysNumber (a_s o23.toNatClampNeg) o21.1 o21.2) (fun o25 => bnd (F_X12_says (45 : Int32) o25.1 o25.2) (fun o27 => bnd (F_X12_at p1 (2 : Int32)) (fun o29 => grd (inb o29 147) (bnd (F_X12_saysNumber (a_s o29.toNatClampNeg) o27.1 o27.2) (fun o31 => J_X12_houseLine_99 p1 a_s t0 o31.1 o31.2))))))))))))))) (some ((0 : Int32), t0, f_lineMany, a_line))

def F_X12_houseLine (p1 : Int32) (a_s : Nat → Int32) (f_thrown : Int32) (f_lineMany : Int32) (a_line : Nat → Int32) : Option (Int32 × Int32 × Int32 × (Nat → Int32)) :=
  bnd (F_X12_isHouse p1 a_s) (fun o1 => brn (o1 = 0) (J_X12_houseLine_14 p1 a_s (1 : Int32) f_thrown f_lineMany a_line) (J_X12_houseLine_14 p1 a_s (0 : Int32) f_thrown f_lineMany a_line))
theorem dX12_houseLine_0 : decode cX12_houseLine 0 = .ok (.aload_n 0, 1) := by decide +kernel
theorem dX12_houseLine_1 : decode cX12_houseLine 1 = .ok (.aload_n 0, 1) := by decide +kernel
theorem dX12_houseLine_2 : decode cX12_houseLine 2 = .ok (.iload_n 1, 1) := by decide +kernel
theorem dX12_houseLine_3 : decode cX12_houseLine 3 = .ok (.invokevirtual 110, 3) := by decide +kernel
theorem dX12_houseLine_6 : decode cX12_houseLine 6 = .ok (.ifCond .eq 7, 3) := by decide +kernel
theorem dX12_houseLine_9 : decode cX12_houseLine 9 = .ok (.iconst 0, 1) := by decide +kernel
theorem dX12_houseLine_10 : decode cX12_houseLine 10 = .ok (.goto 4, 3) := by decide +kernel
theorem dX12_houseLine_13 : decode cX12_houseLine 13 = .ok (.iconst 1, 1) := by decide +kernel
theorem dX12_houseLine_14 : decode cX12_houseLine 14 = .ok (.putfield 42, 3) := by decide +kernel
theorem dX12_houseLine_17 : decode cX12_houseLine 17 = .ok (.aload_n 0, 1) := by decide +kernel
theorem dX12_houseLine_18 : decode cX12_houseLine 18 = .ok (.getfield 42, 3) := by decide +kernel
theorem dX12_houseLine_21 : decode cX12_houseLine 21 = .ok (.ifCond .le 5, 3) := by decide +kernel
theorem dX12_houseLine_24 : decode cX12_houseLine 24 = .ok (.iconst 0, 1) := by decide +kernel
theorem dX12_houseLine_25 : decode cX12_houseLine 25 = .ok (.ireturn, 1) := by decide +kernel
theorem dX12_houseLine_26 : decode cX12_houseLine 26 = .ok (.aload_n 0, 1) := by decide +kernel
theorem dX12_houseLine_27 : decode cX12_houseLine 27 = .ok (.iconst 0, 1) := by decide +kernel
theorem dX12_houseLine_28 : decode cX12_houseLine 28 = .ok (.putfield 208, 3) := by decide +kernel
theorem dX12_houseLine_31 : decode cX12_houseLine 31 = .ok (.aload_n 0, 1) := by decide +kernel
theorem dX12_houseLine_32 : decode cX12_houseLine 32 = .ok (.iload_n 1, 1) := by decide +kernel
theorem dX12_houseLine_33 : decode cX12_houseLine 33 = .ok (.invokevirtual 211, 3) := by decide +kernel
theorem dX12_houseLine_36 : decode cX12_houseLine 36 = .ok (.aload_n 0, 1) := by decide +kernel
theorem dX12_houseLine_37 : decode cX12_houseLine 37 = .ok (.bipush 64, 2) := by decide +kernel
theorem dX12_houseLine_39 : decode cX12_houseLine 39 = .ok (.invokevirtual 214, 3) := by decide +kernel
theorem dX12_houseLine_42 : decode cX12_houseLine 42 = .ok (.aload_n 0, 1) := by decide +kernel
theorem dX12_houseLine_43 : decode cX12_houseLine 43 = .ok (.aload_n 0, 1) := by decide +kernel
theorem dX12_houseLine_44 : decode cX12_houseLine 44 = .ok (.iload_n 1, 1) := by decide +kernel
theorem dX12_houseLine_45 : decode cX12_houseLine 45 = .ok (.invokevirtual 72, 3) := by decide +kernel
theorem dX12_houseLine_48 : decode cX12_houseLine 48 = .ok (.invokevirtual 211, 3) := by decide +kernel
theorem dX12_houseLine_51 : decode cX12_houseLine 51 = .ok (.aload_n 0, 1) := by decide +kernel
theorem dX12_houseLine_52 : decode cX12_houseLine 52 = .ok (.iload_n 1, 1) := by decide +kernel
theorem dX12_houseLine_53 : decode cX12_houseLine 53 = .ok (.invokevirtual 131, 3) := by decide +kernel
theorem dX12_houseLine_56 : decode cX12_houseLine 56 = .ok (.ifCond .le 43, 3) := by decide +kernel
theorem dX12_houseLine_59 : decode cX12_houseLine 59 = .ok (.aload_n 0, 1) := by decide +kernel
theorem dX12_houseLine_60 : decode cX12_houseLine 60 = .ok (.bipush 32, 2) := by decide +kernel
theorem dX12_houseLine_62 : decode cX12_houseLine 62 = .ok (.invokevirtual 214, 3) := by decide +kernel
theorem dX12_houseLine_65 : decode cX12_houseLine 65 = .ok (.aload_n 0, 1) := by decide +kernel
theorem dX12_houseLine_66 : decode cX12_houseLine 66 = .ok (.aload_n 0, 1) := by decide +kernel
theorem dX12_houseLine_67 : decode cX12_houseLine 67 = .ok (.getfield 9, 3) := by decide +kernel
theorem dX12_houseLine_70 : decode cX12_houseLine 70 = .ok (.iload_n 1, 1) := by decide +kernel
theorem dX12_houseLine_71 : decode cX12_houseLine 71 = .ok (.iconst 1, 1) := by decide +kernel
theorem dX12_houseLine_72 : decode cX12_houseLine 72 = .ok (.invokestatic 68, 3) := by decide +kernel
theorem dX12_houseLine_75 : decode cX12_houseLine 75 = .ok (.iaload, 1) := by decide +kernel
theorem dX12_houseLine_76 : decode cX12_houseLine 76 = .ok (.invokevirtual 211, 3) := by decide +kernel
theorem dX12_houseLine_79 : decode cX12_houseLine 79 = .ok (.aload_n 0, 1) := by decide +kernel
theorem dX12_houseLine_80 : decode cX12_houseLine 80 = .ok (.bipush 45, 2) := by decide +kernel
theorem dX12_houseLine_82 : decode cX12_houseLine 82 = .ok (.invokevirtual 214, 3) := by decide +kernel
theorem dX12_houseLine_85 : decode cX12_houseLine 85 = .ok (.aload_n 0, 1) := by decide +kernel
theorem dX12_houseLine_86 : decode cX12_houseLine 86 = .ok (.aload_n 0, 1) := by decide +kernel
theorem dX12_houseLine_87 : decode cX12_houseLine 87 = .ok (.getfield 9, 3) := by decide +kernel
theorem dX12_houseLine_90 : decode cX12_houseLine 90 = .ok (.iload_n 1, 1) := by decide +kernel
theorem dX12_houseLine_91 : decode cX12_houseLine 91 = .ok (.iconst 2, 1) := by decide +kernel
theorem dX12_houseLine_92 : decode cX12_houseLine 92 = .ok (.invokestatic 68, 3) := by decide +kernel
theorem dX12_houseLine_95 : decode cX12_houseLine 95 = .ok (.iaload, 1) := by decide +kernel
theorem dX12_houseLine_96 : decode cX12_houseLine 96 = .ok (.invokevirtual 211, 3) := by decide +kernel
theorem dX12_houseLine_99 : decode cX12_houseLine 99 = .ok (.aload_n 0, 1) := by decide +kernel
theorem dX12_houseLine_100 : decode cX12_houseLine 100 = .ok (.iload_n 1, 1) := by decide +kernel
theorem dX12_houseLine_101 : decode cX12_houseLine 101 = .ok (.aload_n 0, 1) := by decide +kernel
theorem dX12_houseLine_102 : decode cX12_houseLine 102 = .ok (.getfield 9, 3) := by decide +kernel
theorem dX12_houseLine_105 : decode cX12_houseLine 105 = .ok (.iconst 0, 1) := by decide +kernel
theorem dX12_houseLine_106 : decode cX12_houseLine 106 = .ok (.iaload, 1) := by decide +kernel
theorem dX12_houseLine_107 : decode cX12_houseLine 107 = .ok (.invokevirtual 134, 3) := by decide +kernel
theorem dX12_houseLine_110 : decode cX12_houseLine 110 = .ok (.ifCond .eq 9, 3) := by decide +kernel
theorem dX12_houseLine_113 : decode cX12_houseLine 113 = .ok (.aload_n 0, 1) := by decide +kernel
theorem dX12_houseLine_114 : decode cX12_houseLine 114 = .ok (.bipush 122, 2) := by decide +kernel
theorem dX12_houseLine_116 : decode cX12_houseLine 116 = .ok (.invokevirtual 214, 3) := by decide +kernel
theorem dX12_houseLine_119 : decode cX12_houseLine 119 = .ok (.bipush 9, 2) := by decide +kernel
theorem dX12_houseLine_121 : decode cX12_houseLine 121 = .ok (.aload_n 0, 1) := by decide +kernel
theorem dX12_houseLine_122 : decode cX12_houseLine 122 = .ok (.getfield 9, 3) := by decide +kernel
theorem dX12_houseLine_125 : decode cX12_houseLine 125 = .ok (.iload_n 1, 1) := by decide +kernel
theorem dX12_houseLine_126 : decode cX12_houseLine 126 = .ok (.iconst 4, 1) := by decide +kernel
theorem dX12_houseLine_127 : decode cX12_houseLine 127 = .ok (.invokestatic 68, 3) := by decide +kernel
theorem dX12_houseLine_130 : decode cX12_houseLine 130 = .ok (.iaload, 1) := by decide +kernel
theorem dX12_houseLine_131 : decode cX12_houseLine 131 = .ok (.invokestatic 222, 3) := by decide +kernel
theorem dX12_houseLine_134 : decode cX12_houseLine 134 = .ok (.istore_n 2, 1) := by decide +kernel
theorem dX12_houseLine_135 : decode cX12_houseLine 135 = .ok (.iload_n 2, 1) := by decide +kernel
theorem dX12_houseLine_136 : decode cX12_houseLine 136 = .ok (.ifCond .le 15, 3) := by decide +kernel
theorem dX12_houseLine_139 : decode cX12_houseLine 139 = .ok (.aload_n 0, 1) := by decide +kernel
theorem dX12_houseLine_140 : decode cX12_houseLine 140 = .ok (.bipush 33, 2) := by decide +kernel
theorem dX12_houseLine_142 : decode cX12_houseLine 142 = .ok (.invokevirtual 214, 3) := by decide +kernel
theorem dX12_houseLine_145 : decode cX12_houseLine 145 = .ok (.iinc 2 (-1), 3) := by decide +kernel
theorem dX12_houseLine_148 : decode cX12_houseLine 148 = .ok (.goto (-13), 3) := by decide +kernel
theorem dX12_houseLine_151 : decode cX12_houseLine 151 = .ok (.aload_n 0, 1) := by decide +kernel
theorem dX12_houseLine_152 : decode cX12_houseLine 152 = .ok (.getfield 208, 3) := by decide +kernel
theorem dX12_houseLine_155 : decode cX12_houseLine 155 = .ok (.ireturn, 1) := by decide +kernel
theorem k_X12_houseLine : cardV yX12_houseLine (Cond.code yX12_houseLine cX12_houseLine 3 (some .int)) 1 := ⟨⟨qi_X12_houseLine, qv_X12_houseLine⟩, qc_X12_houseLine, qn_X12, by decide +kernel, by decide +kernel, by decide +kernel⟩
set_option maxHeartbeats 4000000 in
set_option maxRecDepth 100000 in
theorem c_X12_houseLine (l : Launch) (D : va_G) (g : Nat → ClassId) (q_this q_s q_before q_saved q_past q_steps q_goes q_line q_text q_orders : Nat) (p1 : Int32) (f_isSaved : Int32) (f_pastMany : Int32) (f_thrown : Int32) (f_reason : Int32) (f_detail : Int32) (f_isRefused : Int32) (f_goesMany : Int32) (f_roundSteps : Int32) (f_lineMany : Int32) (f_length : Int32) (f_at : Int32) (f_isWrong : Int32) (f_errorAt : Int32) (f_orderMany : Int32) (a_s : Nat → Int32) (a_line : Nat → Int32) (o : Int32 × Int32 × Int32 × (Nat → Int32)) (h : F_X12_houseLine p1 a_s f_thrown f_lineMany a_line = some o) : MW l yX12_houseLine (Cond.code yX12_houseLine cX12_houseLine 3 (some .int)) { frames := 3, cells := 0, slots := 0, locals := 64 } D g [.ref q_this, .int p1] [(q_this, .inr (12, [.ref q_s, .ref q_before, .ref q_saved, .int f_isSaved, .ref q_past, .int f_pastMany, .int f_thrown, .int f_reason, .int f_detail, .int f_isRefused, .ref q_steps, .ref q_goes, .int f_goesMany, .int f_roundSteps, .ref q_line, .int f_lineMany, .ref q_text, .int f_length, .int f_at, .int f_isWrong, .int f_errorAt, .ref q_orders, .int f_orderMany])), (q_s, .inl (g 0, 147, .inl a_s)), (q_line, .inl (g 1, 40, .inl a_line))] (some (.int o.1)) [(q_this, .inr (12, [.ref q_s, .ref q_before, .ref q_saved, .int f_isSaved, .ref q_past, .int f_pastMany, .int o.2.1, .int f_reason, .int f_detail, .int f_isRefused, .ref q_steps, .ref q_goes, .int f_goesMany, .int f_roundSteps, .ref q_line, .int o.2.2.1, .ref q_text, .int f_length, .int f_at, .int f_isWrong, .int f_errorAt, .ref q_orders, .int f_orderMany])), (q_s, .inl (g 0, 147, .inl a_s)), (q_line, .inl (g 1, 40, .inl o.2.2.2))] := by
  refine z_wr_start (by decide) (Nat.le_of_ble_eq_true rfl) ?_
  intro p e s m args below meth c Q A X hr hQ hA
  refine z_lv (lv' := [(0, .ref q_this), (1, .int p1)]) rfl ?_
  have H135 : ∀ (n : Nat) (x2 : Int32) (f_thrown : Int32) (f_lineMany : Int32) (a_line : Nat → Int32), L_X12_houseLine_135 p1 a_s  n x2 f_thrown f_lineMany a_line = some o → Z p l e { frames := 3, cells := 0, slots := 0, locals := 64 } s m args below meth c Q 3 0 0 (IW D A s [(q_this, .inr (12, [.ref q_s, .ref q_before, .ref q_saved, .int f_isSaved, .ref q_past, .int f_pastMany, .int f_thrown, .int f_reason, .int f_detail, .int f_isRefused, .ref q_steps, .ref q_goes, .int f_goesMany, .int f_roundSteps, .ref q_line, .int f_lineMany, .ref q_text, .int f_length, .int f_at, .int f_isWrong, .int f_errorAt, .ref q_orders, .int f_orderMany])), (q_s, .inl (g 0, 147, .inl a_s)), (q_line, .inl (g 1, 40, .inl a_line))]) 135 [(0, .ref q_this), (2, .int x2)] [] := by
    intro n
    induction n with
    | zero => intro x2 f_thrown f_lineMany a_line h; cases h
    | succ n135 ih135 =>
      intro x2 f_thrown f_lineMany a_line h
      refine z_iload_n X 1 dX12_houseLine_135 rfl rfl ?_
      refine z_if_le X 151 dX12_houseLine_136 (by decide) h (fun _ h => ?_) (fun _ h => ?_)
      · refine z_aload_n X 0 dX12_houseLine_151 rfl rfl ?_
        refine z_get (q0 := 0) (k := 15) (ci := 12) X IW_P iw_X12 rfl qf_X12_X12_lineMany (by decide) dX12_houseLine_152 rfl rfl ?_
        cases h
        exact z_iretW X hQ hA hr dX12_houseLine_155
      · refine z_aload_n X 0 dX12_houseLine_139 rfl rfl ?_
        refine z_bipush X (33 : Int32) dX12_houseLine_140 (by decide) ?_
        obtain ⟨o17, e18, h⟩ := bnd_p h
        refine z_wrV (rest := []) (q0 := 0) (ci := 12) (ws' := [(q_this, .inr (12, [.ref q_s, .ref q_before, .ref q_saved, .int f_isSaved, .ref q_past, .int f_pastMany, .int f_thrown, .int f_reason, .int f_detail, .int f_isRefused, .ref q_steps, .ref q_goes, .int f_goesMany, .int f_roundSteps, .ref q_line, .int o17.1, .ref q_text, .int f_length, .int f_at, .int f_isWrong, .int f_errorAt, .ref q_orders, .int f_orderMany])), (q_s, .inl (g 0, 147, .inl a_s)), (q_line, .inl (g 1, 40, .inl o17.2))]) (wr := [(q_s, .inl (g 0, 147, .inl a_s))]) (as := [q_this, q_s, q_line]) X k_X12_says (c_X12_says l D g q_this q_s q_before q_saved q_past q_steps q_goes q_line q_text q_orders (33 : Int32) f_isSaved f_pastMany f_thrown f_reason f_detail f_isRefused f_goesMany f_roundSteps f_lineMany f_length f_at f_isWrong f_errorAt f_orderMany a_line o17 e18) ql_X12_X12_says dX12_houseLine_142 [0, 2] [1] ⟨rfl, rfl, rfl, rfl, rfl, rfl, rfl, rfl⟩ rfl rfl rfl rfl rfl ⟨Nat.le_of_ble_eq_true rfl, Nat.le_of_ble_eq_true rfl, rfl, rfl, Nat.le_of_ble_eq_true rfl, Nat.le_of_ble_eq_true rfl⟩ (Nat.le_of_ble_eq_true rfl) ?_
        refine z_iinc X 1 [(2, .int (x2 + (-1))), (0, .ref q_this)] dX12_houseLine_145 rfl rfl (by decide) rfl ?_
        refine z_goto X 135 dX12_houseLine_148 (by decide) ?_
        refine z_sub (lv' := [(0, .ref q_this), (2, .int (x2 + (-1)))]) [1, 0] rfl ?_
        exact ih135 (x2 + (-1)) f_thrown o17.1 o17.2 h
  have H119 : ∀ (f_thrown : Int32) (f_lineMany : Int32) (a_line : Nat → Int32), J_X12_houseLine_119 p1 a_s f_thrown f_lineMany a_line = some o → Z p l e { frames := 3, cells := 0, slots := 0, locals := 64 } s m args below meth c Q 3 0 0 (IW D A s [(q_this, .inr (12, [.ref q_s, .ref q_before, .ref q_saved, .int f_isSaved, .ref q_past, .int f_pastMany, .int f_thrown, .int f_reason, .int f_detail, .int f_isRefused, .ref q_steps, .ref q_goes, .int f_goesMany, .int f_roundSteps, .ref q_line, .int f_lineMany, .ref q_text, .int f_length, .int f_at, .int f_isWrong, .int f_errorAt, .ref q_orders, .int f_orderMany])), (q_s, .inl (g 0, 147, .inl a_s)), (q_line, .inl (g 1, 40, .inl a_line))]) 119 [(0, .ref q_this), (1, .int p1)] [] := by
    intro f_thrown f_lineMany a_line h
    refine z_bipush X (9 : Int32) dX12_houseLine_119 (by decide) ?_
    refine z_aload_n X 0 dX12_houseLine_121 rfl rfl ?_
    refine z_get (q0 := 0) (k := 0) (ci := 12) X IW_P iw_X12 rfl qf_X12_X12_s (by decide) dX12_houseLine_122 rfl rfl ?_
    refine z_iload_n X 1 dX12_houseLine_125 rfl rfl ?_
    refine z_iconst X (4 : Int32) dX12_houseLine_126 (by decide) ?_
    obtain ⟨o15, e16, h⟩ := bnd_p h
    refine z_rdS (rest := [.ref q_s, .int (9 : Int32)]) X IW_P k_X12_at (c_X12_at l D g p1 (4 : Int32) o15 e16) ql_X12_X12_at dX12_houseLine_127 [] rfl rfl rfl ⟨Nat.le_of_ble_eq_true rfl, Nat.le_of_ble_eq_true rfl, rfl, rfl, Nat.le_of_ble_eq_true rfl, Nat.le_of_ble_eq_true rfl⟩ (Nat.le_of_ble_eq_true rfl) ?_
    refine z_iald (q0 := 1) X IW_P dX12_houseLine_130 rfl h (fun h => ?_)
    refine z_mmin X ql_X12_mmin dX12_houseLine_131 (Nat.le_of_ble_eq_true rfl) (Nat.le_of_ble_eq_true rfl) (Nat.le_of_ble_eq_true rfl) (Nat.le_of_ble_eq_true rfl) ?_
    refine z_istore_n X [(2, .int (if (a_s o15.toNatClampNeg) < (9 : Int32) then (a_s o15.toNatClampNeg) else (9 : Int32))), (0, .ref q_this), (1, .int p1)] dX12_houseLine_134 rfl (by decide) rfl ?_
    refine z_sub (lv' := [(0, .ref q_this), (2, .int (if (a_s o15.toNatClampNeg) < (9 : Int32) then (a_s o15.toNatClampNeg) else (9 : Int32)))]) [1, 0] rfl ?_
    exact H135 100 (if (a_s o15.toNatClampNeg) < (9 : Int32) then (a_s o15.toNatClampNeg) else (9 : Int32)) f_thrown f_lineMany a_line h
  have H99 : ∀ (f_thrown : Int32) (f_lineMany : Int32) (a_line : Nat → Int32), J_X12_houseLine_99 p1 a_s f_thrown f_lineMany a_line = some o → Z p l e { frames := 3, cells := 0, slots := 0, locals := 64 } s m args below meth c Q 3 0 0 (IW D A s [(q_this, .inr (12, [.ref q_s, .ref q_before, .ref q_saved, .int f_isSaved, .ref q_past, .int f_pastMany, .int f_thrown, .int f_reason, .int f_detail, .int f_isRefused, .ref q_steps, .ref q_goes, .int f_goesMany, .int f_roundSteps, .ref q_line, .int f_lineMany, .ref q_text, .int f_length, .int f_at, .int f_isWrong, .int f_errorAt, .ref q_orders, .int f_orderMany])), (q_s, .inl (g 0, 147, .inl a_s)), (q_line, .inl (g 1, 40, .inl a_line))]) 99 [(0, .ref q_this), (1, .int p1)] [] := by
    intro f_thrown f_lineMany a_line h
    refine z_aload_n X 0 dX12_houseLine_99 rfl rfl ?_
    refine z_iload_n X 1 dX12_houseLine_100 rfl rfl ?_
    refine z_aload_n X 0 dX12_houseLine_101 rfl rfl ?_
    refine z_get (q0 := 0) (k := 0) (ci := 12) X IW_P iw_X12 rfl qf_X12_X12_s (by decide) dX12_houseLine_102 rfl rfl ?_
    refine z_iconst X (0 : Int32) dX12_houseLine_105 (by decide) ?_
    refine z_iald (q0 := 1) X IW_P dX12_houseLine_106 rfl h (fun h => ?_)
    obtain ⟨o13, e14, h⟩ := bnd_p h
    refine z_rdV (rest := []) (q0 := 0) (ci := 12) X IW_P k_X12_sleeps (c_X12_sleeps l D g q_this q_s q_before q_saved q_past q_steps q_goes q_line q_text q_orders p1 (a_s (0 : Int32).toNatClampNeg) f_isSaved f_pastMany f_thrown f_reason f_detail f_isRefused f_goesMany f_roundSteps f_lineMany f_length f_at f_isWrong f_errorAt f_orderMany a_s o13 e14) ql_X12_X12_sleeps dX12_houseLine_107 [0, 1] rfl rfl rfl rfl rfl rfl ⟨Nat.le_of_ble_eq_true rfl, Nat.le_of_ble_eq_true rfl, rfl, rfl, Nat.le_of_ble_eq_true rfl, Nat.le_of_ble_eq_true rfl⟩ (Nat.le_of_ble_eq_true rfl) ?_
    refine z_if_eq X 119 dX12_houseLine_110 (by decide) h (fun _ h => ?_) (fun _ h => ?_)
    · exact H119 f_thrown f_lineMany a_line h
    · refine z_aload_n X 0 dX12_houseLine_113 rfl rfl ?_
      refine z_bipush X (122 : Int32) dX12_houseLine_114 (by decide) ?_
      obtain ⟨o19, e20, h⟩ := bnd_p h
      refine z_wrV (rest := []) (q0 := 0) (ci := 12) (ws' := [(q_this, .inr (12, [.ref q_s, .ref q_before, .ref q_saved, .int f_isSaved, .ref q_past, .int f_pastMany, .int f_thrown, .int f_reason, .int f_detail, .int f_isRefused, .ref q_steps, .ref q_goes, .int f_goesMany, .int f_roundSteps, .ref q_line, .int o19.1, .ref q_text, .int f_length, .int f_at, .int f_isWrong, .int f_errorAt, .ref q_orders, .int f_orderMany])), (q_s, .inl (g 0, 147, .inl a_s)), (q_line, .inl (g 1, 40, .inl o19.2))]) (wr := [(q_s, .inl (g 0, 147, .inl a_s))]) (as := [q_this, q_s, q_line]) X k_X12_says (c_X12_says l D g q_this q_s q_before q_saved q_past q_steps q_goes q_line q_text q_orders (122 : Int32) f_isSaved f_pastMany f_thrown f_reason f_detail f_isRefused f_goesMany f_roundSteps f_lineMany f_length f_at f_isWrong f_errorAt f_orderMany a_line o19 e20) ql_X12_X12_says dX12_houseLine_116 [0, 2] [1] ⟨rfl, rfl, rfl, rfl, rfl, rfl, rfl, rfl⟩ rfl rfl rfl rfl rfl ⟨Nat.le_of_ble_eq_true rfl, Nat.le_of_ble_eq_true rfl, rfl, rfl, Nat.le_of_ble_eq_true rfl, Nat.le_of_ble_eq_true rfl⟩ (Nat.le_of_ble_eq_true rfl) ?_
      exact H119 f_thrown o19.1 o19.2 h
  have H14 : ∀ (t0 : Int32) (f_thrown : Int32) (f_lineMany : Int32) (a_line : Nat → Int32), J_X12_houseLine_14 p1 a_s t0 f_thrown f_lineMany a_line = some o → Z p l e { frames := 3, cells := 0, slots := 0, locals := 64 } s m args below meth c Q 3 0 0 (IW D A s [(q_this, .inr (12, [.ref q_s, .ref q_before, .ref q_saved, .int f_isSaved, .ref q_past, .int f_pastMany, .int f_thrown, .int f_reason, .int f_detail, .int f_isRefused, .ref q_steps, .ref q_goes, .int f_goesMany, .int f_roundSteps, .ref q_line, .int f_lineMany, .ref q_text, .int f_length, .int f_at, .int f_isWrong, .int f_errorAt, .ref q_orders, .int f_orderMany])), (q_s, .inl (g 0, 147, .inl a_s)), (q_line, .inl (g 1, 40, .inl a_line))]) 14 [(0, .ref q_this), (1, .int p1)] [.int t0, .ref q_this] := by
    intro t0 f_thrown f_lineMany a_line h
    refine z_put (q0 := 0) (k := 6) (ci := 12) (ws' := [(q_this, .inr (12, [.ref q_s, .ref q_before, .ref q_saved, .int f_isSaved, .ref q_past, .int f_pastMany, .int t0, .int f_reason, .int f_detail, .int f_isRefused, .ref q_steps, .ref q_goes, .int f_goesMany, .int f_roundSteps, .ref q_line, .int f_lineMany, .ref q_text, .int f_length, .int f_at, .int f_isWrong, .int f_errorAt, .ref q_orders, .int f_orderMany])), (q_s, .inl (g 0, 147, .inl a_s)), (q_line, .inl (g 1, 40, .inl a_line))]) X iw_X12 tyX12_ok nmX12 rfl qf_X12_X12_thrown (by decide) rfl rfl dX12_houseLine_14 rfl rfl rfl (Nat.le_of_ble_eq_true rfl) rfl ?_
    refine z_aload_n X 0 dX12_houseLine_17 rfl rfl ?_
    refine z_get (q0 := 0) (k := 6) (ci := 12) X IW_P iw_X12 rfl qf_X12_X12_thrown (by decide) dX12_houseLine_18 rfl rfl ?_
    refine z_if_le X 26 dX12_houseLine_21 (by decide) h (fun _ h => ?_) (fun _ h => ?_)
    · refine z_aload_n X 0 dX12_houseLine_26 rfl rfl ?_
      refine z_iconst X (0 : Int32) dX12_houseLine_27 (by decide) ?_
      refine z_put (q0 := 0) (k := 15) (ci := 12) (ws' := [(q_this, .inr (12, [.ref q_s, .ref q_before, .ref q_saved, .int f_isSaved, .ref q_past, .int f_pastMany, .int t0, .int f_reason, .int f_detail, .int f_isRefused, .ref q_steps, .ref q_goes, .int f_goesMany, .int f_roundSteps, .ref q_line, .int (0 : Int32), .ref q_text, .int f_length, .int f_at, .int f_isWrong, .int f_errorAt, .ref q_orders, .int f_orderMany])), (q_s, .inl (g 0, 147, .inl a_s)), (q_line, .inl (g 1, 40, .inl a_line))]) X iw_X12 tyX12_ok nmX12 rfl qf_X12_X12_lineMany (by decide) rfl rfl dX12_houseLine_28 rfl rfl rfl (Nat.le_of_ble_eq_true rfl) rfl ?_
      refine z_aload_n X 0 dX12_houseLine_31 rfl rfl ?_
      refine z_iload_n X 1 dX12_houseLine_32 rfl rfl ?_
      obtain ⟨o3, e4, h⟩ := bnd_p h
      refine z_wrV (rest := []) (q0 := 0) (ci := 12) (ws' := [(q_this, .inr (12, [.ref q_s, .ref q_before, .ref q_saved, .int f_isSaved, .ref q_past, .int f_pastMany, .int t0, .int f_reason, .int f_detail, .int f_isRefused, .ref q_steps, .ref q_goes, .int f_goesMany, .int f_roundSteps, .ref q_line, .int o3.1, .ref q_text, .int f_length, .int f_at, .int f_isWrong, .int f_errorAt, .ref q_orders, .int f_orderMany])), (q_s, .inl (g 0, 147, .inl a_s)), (q_line, .inl (g 1, 40, .inl o3.2))]) (wr := [(q_s, .inl (g 0, 147, .inl a_s))]) (as := [q_this, q_s, q_line]) X k_X12_saysNumber (c_X12_saysNumber l D g q_this q_s q_before q_saved q_past q_steps q_goes q_line q_text q_orders p1 f_isSaved f_pastMany t0 f_reason f_detail f_isRefused f_goesMany f_roundSteps (0 : Int32) f_length f_at f_isWrong f_errorAt f_orderMany a_line o3 e4) ql_X12_X12_saysNumber dX12_houseLine_33 [0, 2] [1] ⟨rfl, rfl, rfl, rfl, rfl, rfl, rfl, rfl⟩ rfl rfl rfl rfl rfl ⟨Nat.le_of_ble_eq_true rfl, Nat.le_of_ble_eq_true rfl, rfl, rfl, Nat.le_of_ble_eq_true rfl, Nat.le_of_ble_eq_true rfl⟩ (Nat.le_of_ble_eq_true rfl) ?_
      refine z_aload_n X 0 dX12_houseLine_36 rfl rfl ?_
      refine z_bipush X (64 : Int32) dX12_houseLine_37 (by decide) ?_
      obtain ⟨o5, e6, h⟩ := bnd_p h
      refine z_wrV (rest := []) (q0 := 0) (ci := 12) (ws' := [(q_this, .inr (12, [.ref q_s, .ref q_before, .ref q_saved, .int f_isSaved, .ref q_past, .int f_pastMany, .int t0, .int f_reason, .int f_detail, .int f_isRefused, .ref q_steps, .ref q_goes, .int f_goesMany, .int f_roundSteps, .ref q_line, .int o5.1, .ref q_text, .int f_length, .int f_at, .int f_isWrong, .int f_errorAt, .ref q_orders, .int f_orderMany])), (q_s, .inl (g 0, 147, .inl a_s)), (q_line, .inl (g 1, 40, .inl o5.2))]) (wr := [(q_s, .inl (g 0, 147, .inl a_s))]) (as := [q_this, q_s, q_line]) X k_X12_says (c_X12_says l D g q_this q_s q_before q_saved q_past q_steps q_goes q_line q_text q_orders (64 : Int32) f_isSaved f_pastMany t0 f_reason f_detail f_isRefused f_goesMany f_roundSteps o3.1 f_length f_at f_isWrong f_errorAt f_orderMany o3.2 o5 e6) ql_X12_X12_says dX12_houseLine_39 [0, 2] [1] ⟨rfl, rfl, rfl, rfl, rfl, rfl, rfl, rfl⟩ rfl rfl rfl rfl rfl ⟨Nat.le_of_ble_eq_true rfl, Nat.le_of_ble_eq_true rfl, rfl, rfl, Nat.le_of_ble_eq_true rfl, Nat.le_of_ble_eq_true rfl⟩ (Nat.le_of_ble_eq_true rfl) ?_
      refine z_aload_n X 0 dX12_houseLine_42 rfl rfl ?_
      refine z_aload_n X 0 dX12_houseLine_43 rfl rfl ?_
      refine z_iload_n X 1 dX12_houseLine_44 rfl rfl ?_
      obtain ⟨o7, e8, h⟩ := bnd_p h
      refine z_rdV (rest := [.ref q_this]) (q0 := 0) (ci := 12) X IW_P k_X12_cellOf (c_X12_cellOf l D g q_this q_s q_before q_saved q_past q_steps q_goes q_line q_text q_orders p1 f_isSaved f_pastMany t0 f_reason f_detail f_isRefused f_goesMany f_roundSteps o5.1 f_length f_at f_isWrong f_errorAt f_orderMany a_s o7 e8) ql_X12_X12_cellOf dX12_houseLine_45 [0, 1] rfl rfl rfl rfl rfl rfl ⟨Nat.le_of_ble_eq_true rfl, Nat.le_of_ble_eq_true rfl, rfl, rfl, Nat.le_of_ble_eq_true rfl, Nat.le_of_ble_eq_true rfl⟩ (Nat.le_of_ble_eq_true rfl) ?_
      obtain ⟨o9, e10, h⟩ := bnd_p h
      refine z_wrV (rest := []) (q0 := 0) (ci := 12) (ws' := [(q_this, .inr (12, [.ref q_s, .ref q_before, .ref q_saved, .int f_isSaved, .ref q_past, .int f_pastMany, .int t0, .int f_reason, .int f_detail, .int f_isRefused, .ref q_steps, .ref q_goes, .int f_goesMany, .int f_roundSteps, .ref q_line, .int o9.1, .ref q_text, .int f_length, .int f_at, .int f_isWrong, .int f_errorAt, .ref q_orders, .int f_orderMany])), (q_s, .inl (g 0, 147, .inl a_s)), (q_line, .inl (g 1, 40, .inl o9.2))]) (wr := [(q_s, .inl (g 0, 147, .inl a_s))]) (as := [q_this, q_s, q_line]) X k_X12_saysNumber (c_X12_saysNumber l D g q_this q_s q_before q_saved q_past q_steps q_goes q_line q_text q_orders o7 f_isSaved f_pastMany t0 f_reason f_detail f_isRefused f_goesMany f_roundSteps o5.1 f_length f_at f_isWrong f_errorAt f_orderMany o5.2 o9 e10) ql_X12_X12_saysNumber dX12_houseLine_48 [0, 2] [1] ⟨rfl, rfl, rfl, rfl, rfl, rfl, rfl, rfl⟩ rfl rfl rfl rfl rfl ⟨Nat.le_of_ble_eq_true rfl, Nat.le_of_ble_eq_true rfl, rfl, rfl, Nat.le_of_ble_eq_true rfl, Nat.le_of_ble_eq_true rfl⟩ (Nat.le_of_ble_eq_true rfl) ?_
      refine z_aload_n X 0 dX12_houseLine_51 rfl rfl ?_
      refine z_iload_n X 1 dX12_houseLine_52 rfl rfl ?_
      obtain ⟨o11, e12, h⟩ := bnd_p h
      refine z_rdV (rest := []) (q0 := 0) (ci := 12) X IW_P k_X12_sleep (c_X12_sleep l D g q_this q_s q_before q_saved q_past q_steps q_goes q_line q_text q_orders p1 f_isSaved f_pastMany t0 f_reason f_detail f_isRefused f_goesMany f_roundSteps o9.1 f_length f_at f_isWrong f_errorAt f_orderMany a_s o11 e12) ql_X12_X12_sleep dX12_houseLine_53 [0, 1] rfl rfl rfl rfl rfl rfl ⟨Nat.le_of_ble_eq_true rfl, Nat.le_of_ble_eq_true rfl, rfl, rfl, Nat.le_of_ble_eq_true rfl, Nat.le_of_ble_eq_true rfl⟩ (Nat.le_of_ble_eq_true rfl) ?_
      refine z_if_le X 99 dX12_houseLine_56 (by decide) h (fun _ h => ?_) (fun _ h => ?_)
      · exact H99 t0 o9.1 o9.2 h
      · refine z_aload_n X 0 dX12_houseLine_59 rfl rfl ?_
        refine z_bipush X (32 : Int32) dX12_houseLine_60 (by decide) ?_
        obtain ⟨o21, e22, h⟩ := bnd_p h
        refine z_wrV (rest := []) (q0 := 0) (ci := 12) (ws' := [(q_this, .inr (12, [.ref q_s, .ref q_before, .ref q_saved, .int f_isSaved, .ref q_past, .int f_pastMany, .int t0, .int f_reason, .int f_detail, .int f_isRefused, .ref q_steps, .ref q_goes, .int f_goesMany, .int f_roundSteps, .ref q_line, .int o21.1, .ref q_text, .int f_length, .int f_at, .int f_isWrong, .int f_errorAt, .ref q_orders, .int f_orderMany])), (q_s, .inl (g 0, 147, .inl a_s)), (q_line, .inl (g 1, 40, .inl o21.2))]) (wr := [(q_s, .inl (g 0, 147, .inl a_s))]) (as := [q_this, q_s, q_line]) X k_X12_says (c_X12_says l D g q_this q_s q_before q_saved q_past q_steps q_goes q_line q_text q_orders (32 : Int32) f_isSaved f_pastMany t0 f_reason f_detail f_isRefused f_goesMany f_roundSteps o9.1 f_length f_at f_isWrong f_errorAt f_orderMany o9.2 o21 e22) ql_X12_X12_says dX12_houseLine_62 [0, 2] [1] ⟨rfl, rfl, rfl, rfl, rfl, rfl, rfl, rfl⟩ rfl rfl rfl rfl rfl ⟨Nat.le_of_ble_eq_true rfl, Nat.le_of_ble_eq_true rfl, rfl, rfl, Nat.le_of_ble_eq_true rfl, Nat.le_of_ble_eq_true rfl⟩ (Nat.le_of_ble_eq_true rfl) ?_
        refine z_aload_n X 0 dX12_houseLine_65 rfl rfl ?_
        refine z_aload_n X 0 dX12_houseLine_66 rfl rfl ?_
        refine z_get (q0 := 0) (k := 0) (ci := 12) X IW_P iw_X12 rfl qf_X12_X12_s (by decide) dX12_houseLine_67 rfl rfl ?_
        refine z_iload_n X 1 dX12_houseLine_70 rfl rfl ?_
        refine z_iconst X (1 : Int32) dX12_houseLine_71 (by decide) ?_
        obtain ⟨o23, e24, h⟩ := bnd_p h
        refine z_rdS (rest := [.ref q_s, .ref q_this]) X IW_P k_X12_at (c_X12_at l D g p1 (1 : Int32) o23 e24) ql_X12_X12_at dX12_houseLine_72 [] rfl rfl rfl ⟨Nat.le_of_ble_eq_true rfl, Nat.le_of_ble_eq_true rfl, rfl, rfl, Nat.le_of_ble_eq_true rfl, Nat.le_of_ble_eq_true rfl⟩ (Nat.le_of_ble_eq_true rfl) ?_
        refine z_iald (q0 := 1) X IW_P dX12_houseLine_75 rfl h (fun h => ?_)
        obtain ⟨o25, e26, h⟩ := bnd_p h
        refine z_wrV (rest := []) (q0 := 0) (ci := 12) (ws' := [(q_this, .inr (12, [.ref q_s, .ref q_before, .ref q_saved, .int f_isSaved, .ref q_past, .int f_pastMany, .int t0, .int f_reason, .int f_detail, .int f_isRefused, .ref q_steps, .ref q_goes, .int f_goesMany, .int f_roundSteps, .ref q_line, .int o25.1, .ref q_text, .int f_length, .int f_at, .int f_isWrong, .int f_errorAt, .ref q_orders, .int f_orderMany])), (q_s, .inl (g 0, 147, .inl a_s)), (q_line, .inl (g 1, 40, .inl o25.2))]) (wr := [(q_s, .inl (g 0, 147, .inl a_s))]) (as := [q_this, q_s, q_line]) X k_X12_saysNumber (c_X12_saysNumber l D g q_this q_s q_before q_saved q_past q_steps q_goes q_line q_text q_orders (a_s o23.toNatClampNeg) f_isSaved f_pastMany t0 f_reason f_detail f_isRefused f_goesMany f_roundSteps o21.1 f_length f_at f_isWrong f_errorAt f_orderMany o21.2 o25 e26) ql_X12_X12_saysNumber dX12_houseLine_76 [0, 2] [1] ⟨rfl, rfl, rfl, rfl, rfl, rfl, rfl, rfl⟩ rfl rfl rfl rfl rfl ⟨Nat.le_of_ble_eq_true rfl, Nat.le_of_ble_eq_true rfl, rfl, rfl, Nat.le_of_ble_eq_true rfl, Nat.le_of_ble_eq_true rfl⟩ (Nat.le_of_ble_eq_true rfl) ?_
        refine z_aload_n X 0 dX12_houseLine_79 rfl rfl ?_
        refine z_bipush X (45 : Int32) dX12_houseLine_80 (by decide) ?_
        obtain ⟨o27, e28, h⟩ := bnd_p h
        refine z_wrV (rest := []) (q0 := 0) (ci := 12) (ws' := [(q_this, .inr (12, [.ref q_s, .ref q_before, .ref q_saved, .int f_isSaved, .ref q_past, .int f_pastMany, .int t0, .int f_reason, .int f_detail, .int f_isRefused, .ref q_steps, .ref q_goes, .int f_goesMany, .int f_roundSteps, .ref q_line, .int o27.1, .ref q_text, .int f_length, .int f_at, .int f_isWrong, .int f_errorAt, .ref q_orders, .int f_orderMany])), (q_s, .inl (g 0, 147, .inl a_s)), (q_line, .inl (g 1, 40, .inl o27.2))]) (wr := [(q_s, .inl (g 0, 147, .inl a_s))]) (as := [q_this, q_s, q_line]) X k_X12_says (c_X12_says l D g q_this q_s q_before q_saved q_past q_steps q_goes q_line q_text q_orders (45 : Int32) f_isSaved f_pastMany t0 f_reason f_detail f_isRefused f_goesMany f_roundSteps o25.1 f_length f_at f_isWrong f_errorAt f_orderMany o25.2 o27 e28) ql_X12_X12_says dX12_houseLine_82 [0, 2] [1] ⟨rfl, rfl, rfl, rfl, rfl, rfl, rfl, rfl⟩ rfl rfl rfl rfl rfl ⟨Nat.le_of_ble_eq_true rfl, Nat.le_of_ble_eq_true rfl, rfl, rfl, Nat.le_of_ble_eq_true rfl, Nat.le_of_ble_eq_true rfl⟩ (Nat.le_of_ble_eq_true rfl) ?_
        refine z_aload_n X 0 dX12_houseLine_85 rfl rfl ?_
        refine z_aload_n X 0 dX12_houseLine_86 rfl rfl ?_
        refine z_get (q0 := 0) (k := 0) (ci := 12) X IW_P iw_X12 rfl qf_X12_X12_s (by decide) dX12_houseLine_87 rfl rfl ?_
        refine z_iload_n X 1 dX12_houseLine_90 rfl rfl ?_
        refine z_iconst X (2 : Int32) dX12_houseLine_91 (by decide) ?_
        obtain ⟨o29, e30, h⟩ := bnd_p h
        refine z_rdS (rest := [.ref q_s, .ref q_this]) X IW_P k_X12_at (c_X12_at l D g p1 (2 : Int32) o29 e30) ql_X12_X12_at dX12_houseLine_92 [] rfl rfl rfl ⟨Nat.le_of_ble_eq_true rfl, Nat.le_of_ble_eq_true rfl, rfl, rfl, Nat.le_of_ble_eq_true rfl, Nat.le_of_ble_eq_true rfl⟩ (Nat.le_of_ble_eq_true rfl) ?_
        refine z_iald (q0 := 1) X IW_P dX12_houseLine_95 rfl h (fun h => ?_)
        obtain ⟨o31, e32, h⟩ := bnd_p h
        refine z_wrV (rest := []) (q0 := 0) (ci := 12) (ws' := [(q_this, .inr (12, [.ref q_s, .ref q_before, .ref q_saved, .int f_isSaved, .ref q_past, .int f_pastMany, .int t0, .int f_reason, .int f_detail, .int f_isRefused, .ref q_steps, .ref q_goes, .int f_goesMany, .int f_roundSteps, .ref q_line, .int o31.1, .ref q_text, .int f_length, .int f_at, .int f_isWrong, .int f_errorAt, .ref q_orders, .int f_orderMany])), (q_s, .inl (g 0, 147, .inl a_s)), (q_line, .inl (g 1, 40, .inl o31.2))]) (wr := [(q_s, .inl (g 0, 147, .inl a_s))]) (as := [q_this, q_s, q_line]) X k_X12_saysNumber (c_X12_saysNumber l D g q_this q_s q_before q_saved q_past q_steps q_goes q_line q_text q_orders (a_s o29.toNatClampNeg) f_isSaved f_pastMany t0 f_reason f_detail f_isRefused f_goesMany f_roundSteps o27.1 f_length f_at f_isWrong f_errorAt f_orderMany o27.2 o31 e32) ql_X12_X12_saysNumber dX12_houseLine_96 [0, 2] [1] ⟨rfl, rfl, rfl, rfl, rfl, rfl, rfl, rfl⟩ rfl rfl rfl rfl rfl ⟨Nat.le_of_ble_eq_true rfl, Nat.le_of_ble_eq_true rfl, rfl, rfl, Nat.le_of_ble_eq_true rfl, Nat.le_of_ble_eq_true rfl⟩ (Nat.le_of_ble_eq_true rfl) ?_
        exact H99 t0 o31.1 o31.2 h
    · refine z_iconst X (0 : Int32) dX12_houseLine_24 (by decide) ?_
      cases h
      exact z_iretW X hQ hA hr dX12_houseLine_25
  refine z_aload_n X 0 dX12_houseLine_0 rfl rfl ?_
  refine z_aload_n X 0 dX12_houseLine_1 rfl rfl ?_
  refine z_iload_n X 1 dX12_houseLine_2 rfl rfl ?_
  obtain ⟨o1, e2, h⟩ := bnd_p h
  refine z_rdV (rest := [.ref q_this]) (q0 := 0) (ci := 12) X IW_P k_X12_isHouse (c_X12_isHouse l D g q_this q_s q_before q_saved q_past q_steps q_goes q_line q_text q_orders p1 f_isSaved f_pastMany f_thrown f_reason f_detail f_isRefused f_goesMany f_roundSteps f_lineMany f_length f_at f_isWrong f_errorAt f_orderMany a_s o1 e2) ql_X12_X12_isHouse dX12_houseLine_3 [0, 1] rfl rfl rfl rfl rfl rfl ⟨Nat.le_of_ble_eq_true rfl, Nat.le_of_ble_eq_true rfl, rfl, rfl, Nat.le_of_ble_eq_true rfl, Nat.le_of_ble_eq_true rfl⟩ (Nat.le_of_ble_eq_true rfl) ?_
  refine z_if_eq X 13 dX12_houseLine_6 (by decide) h (fun _ h => ?_) (fun _ h => ?_)
  · refine z_iconst X (1 : Int32) dX12_houseLine_13 (by decide) ?_
    exact H14 (1 : Int32) f_thrown f_lineMany a_line h
  · refine z_iconst X (0 : Int32) dX12_houseLine_9 (by decide) ?_
    refine z_goto X 14 dX12_houseLine_10 (by decide) ?_
    exact H14 (0 : Int32) f_thrown f_lineMany a_line h

def J_X12_meanSleep_59 (a_s : Nat → Int32) (t0 : UInt64) (f_thrown : Int32) : Option (UInt64 × Int32) :=
  some (t0, f_thrown)

def L_X12_meanSleep_24 (a_s : Nat → Int32) : Nat → Int32 → Int32 → Int32 → (Int32) → Option (UInt64 × Int32)
  | 0, _, _, _, _ => none
  | _n + 1, x1, x2, x3, f_thrown =>
    brn (x1 ≤ x3) (brn (f_thrown ≤ 0) (grd (FP.ddiv (FP.i2d x2) (FP.i2d x1) &&& 0x7fffffffffffffff ≤ 0x7ff0000000000000) (J_X12_meanSleep_59 a_s (FP.ddiv (FP.i2d x2) (FP.i2d x1)) f_thrown)) (J_X12_meanSleep_59 a_s FP.dconst0 f_thrown)) (bnd (F_X12_sleep x3 a_s) (fun o2 => L_X12_meanSleep_24 a_s _n x1 (x2 + o2) (x3 + 1) f_thrown))

def J_X12_meanSleep_17 (a_s : Nat → Int32) (t0 : Int32) (x1 : Int32) (f_thrown : Int32) : Option (UInt64 × Int32) :=
  L_X12_meanSleep_24 a_s 100 x1 (0 : Int32) (0 : Int32) t0

def F_X12_meanSleep (a_s : Nat → Int32) (f_thrown : Int32) : Option (UInt64 × Int32) :=
  grd (inb (2 : Int32) 147) (brn ((a_s (2 : Int32).toNatClampNeg) = 0) (J_X12_meanSleep_17 a_s (1 : Int32) (a_s (2 : Int32).toNatClampNeg) f_thrown) (J_X12_meanSleep_17 a_s (0 : Int32) (a_s (2 : Int32).toNatClampNeg) f_thrown))
theorem dX12_meanSleep_0 : decode cX12_meanSleep 0 = .ok (.aload_n 0, 1) := by decide +kernel
theorem dX12_meanSleep_1 : decode cX12_meanSleep 1 = .ok (.getfield 9, 3) := by decide +kernel
theorem dX12_meanSleep_4 : decode cX12_meanSleep 4 = .ok (.iconst 2, 1) := by decide +kernel
theorem dX12_meanSleep_5 : decode cX12_meanSleep 5 = .ok (.iaload, 1) := by decide +kernel
theorem dX12_meanSleep_6 : decode cX12_meanSleep 6 = .ok (.istore_n 1, 1) := by decide +kernel
theorem dX12_meanSleep_7 : decode cX12_meanSleep 7 = .ok (.aload_n 0, 1) := by decide +kernel
theorem dX12_meanSleep_8 : decode cX12_meanSleep 8 = .ok (.iload_n 1, 1) := by decide +kernel
theorem dX12_meanSleep_9 : decode cX12_meanSleep 9 = .ok (.ifCond .ne 7, 3) := by decide +kernel
theorem dX12_meanSleep_12 : decode cX12_meanSleep 12 = .ok (.iconst 1, 1) := by decide +kernel
theorem dX12_meanSleep_13 : decode cX12_meanSleep 13 = .ok (.goto 4, 3) := by decide +kernel
theorem dX12_meanSleep_16 : decode cX12_meanSleep 16 = .ok (.iconst 0, 1) := by decide +kernel
theorem dX12_meanSleep_17 : decode cX12_meanSleep 17 = .ok (.putfield 42, 3) := by decide +kernel
theorem dX12_meanSleep_20 : decode cX12_meanSleep 20 = .ok (.iconst 0, 1) := by decide +kernel
theorem dX12_meanSleep_21 : decode cX12_meanSleep 21 = .ok (.istore_n 2, 1) := by decide +kernel
theorem dX12_meanSleep_22 : decode cX12_meanSleep 22 = .ok (.iconst 0, 1) := by decide +kernel
theorem dX12_meanSleep_23 : decode cX12_meanSleep 23 = .ok (.istore_n 3, 1) := by decide +kernel
theorem dX12_meanSleep_24 : decode cX12_meanSleep 24 = .ok (.iload_n 3, 1) := by decide +kernel
theorem dX12_meanSleep_25 : decode cX12_meanSleep 25 = .ok (.iload_n 1, 1) := by decide +kernel
theorem dX12_meanSleep_26 : decode cX12_meanSleep 26 = .ok (.if_icmp .ge 17, 3) := by decide +kernel
theorem dX12_meanSleep_29 : decode cX12_meanSleep 29 = .ok (.iload_n 2, 1) := by decide +kernel
theorem dX12_meanSleep_30 : decode cX12_meanSleep 30 = .ok (.aload_n 0, 1) := by decide +kernel
theorem dX12_meanSleep_31 : decode cX12_meanSleep 31 = .ok (.iload_n 3, 1) := by decide +kernel
theorem dX12_meanSleep_32 : decode cX12_meanSleep 32 = .ok (.invokevirtual 131, 3) := by decide +kernel
theorem dX12_meanSleep_35 : decode cX12_meanSleep 35 = .ok (.iadd, 1) := by decide +kernel
theorem dX12_meanSleep_36 : decode cX12_meanSleep 36 = .ok (.istore_n 2, 1) := by decide +kernel
theorem dX12_meanSleep_37 : decode cX12_meanSleep 37 = .ok (.iinc 3 1, 3) := by decide +kernel
theorem dX12_meanSleep_40 : decode cX12_meanSleep 40 = .ok (.goto (-16), 3) := by decide +kernel
theorem dX12_meanSleep_43 : decode cX12_meanSleep 43 = .ok (.aload_n 0, 1) := by decide +kernel
theorem dX12_meanSleep_44 : decode cX12_meanSleep 44 = .ok (.getfield 42, 3) := by decide +kernel
theorem dX12_meanSleep_47 : decode cX12_meanSleep 47 = .ok (.ifCond .le 7, 3) := by decide +kernel
theorem dX12_meanSleep_50 : decode cX12_meanSleep 50 = .ok (.dconst 0, 1) := by decide +kernel
theorem dX12_meanSleep_51 : decode cX12_meanSleep 51 = .ok (.goto 8, 3) := by decide +kernel
theorem dX12_meanSleep_54 : decode cX12_meanSleep 54 = .ok (.iload_n 2, 1) := by decide +kernel
theorem dX12_meanSleep_55 : decode cX12_meanSleep 55 = .ok (.i2d, 1) := by decide +kernel
theorem dX12_meanSleep_56 : decode cX12_meanSleep 56 = .ok (.iload_n 1, 1) := by decide +kernel
theorem dX12_meanSleep_57 : decode cX12_meanSleep 57 = .ok (.i2d, 1) := by decide +kernel
theorem dX12_meanSleep_58 : decode cX12_meanSleep 58 = .ok (.ddiv, 1) := by decide +kernel
theorem dX12_meanSleep_59 : decode cX12_meanSleep 59 = .ok (.dreturn, 1) := by decide +kernel
theorem k_X12_meanSleep : cardV yX12_meanSleep (Cond.code yX12_meanSleep cX12_meanSleep 4 (some .double)) 0 := ⟨⟨qi_X12_meanSleep, qv_X12_meanSleep⟩, qc_X12_meanSleep, qn_X12, by decide +kernel, by decide +kernel, by decide +kernel⟩
set_option maxHeartbeats 4000000 in
set_option maxRecDepth 100000 in
theorem c_X12_meanSleep (l : Launch) (D : va_G) (g : Nat → ClassId) (q_this q_s q_before q_saved q_past q_steps q_goes q_line q_text q_orders : Nat) (f_isSaved : Int32) (f_pastMany : Int32) (f_thrown : Int32) (f_reason : Int32) (f_detail : Int32) (f_isRefused : Int32) (f_goesMany : Int32) (f_roundSteps : Int32) (f_lineMany : Int32) (f_length : Int32) (f_at : Int32) (f_isWrong : Int32) (f_errorAt : Int32) (f_orderMany : Int32) (a_s : Nat → Int32) (o : UInt64 × Int32) (h : F_X12_meanSleep a_s f_thrown = some o) : MW l yX12_meanSleep (Cond.code yX12_meanSleep cX12_meanSleep 4 (some .double)) { frames := 2, cells := 0, slots := 0, locals := 42 } D g [.ref q_this] [(q_this, .inr (12, [.ref q_s, .ref q_before, .ref q_saved, .int f_isSaved, .ref q_past, .int f_pastMany, .int f_thrown, .int f_reason, .int f_detail, .int f_isRefused, .ref q_steps, .ref q_goes, .int f_goesMany, .int f_roundSteps, .ref q_line, .int f_lineMany, .ref q_text, .int f_length, .int f_at, .int f_isWrong, .int f_errorAt, .ref q_orders, .int f_orderMany])), (q_s, .inl (g 0, 147, .inl a_s))] (some (.double o.1)) [(q_this, .inr (12, [.ref q_s, .ref q_before, .ref q_saved, .int f_isSaved, .ref q_past, .int f_pastMany, .int o.2, .int f_reason, .int f_detail, .int f_isRefused, .ref q_steps, .ref q_goes, .int f_goesMany, .int f_roundSteps, .ref q_line, .int f_lineMany, .ref q_text, .int f_length, .int f_at, .int f_isWrong, .int f_errorAt, .ref q_orders, .int f_orderMany])), (q_s, .inl (g 0, 147, .inl a_s))] := by
  refine z_wr_start (by decide) (Nat.le_of_ble_eq_true rfl) ?_
  intro p e s m args below meth c Q A X hr hQ hA
  refine z_lv (lv' := [(0, .ref q_this)]) rfl ?_
  have H59 : ∀ (t0 : UInt64) (f_thrown : Int32), J_X12_meanSleep_59 a_s t0 f_thrown = some o → Z p l e { frames := 2, cells := 0, slots := 0, locals := 42 } s m args below meth c Q 4 0 0 (IW D A s [(q_this, .inr (12, [.ref q_s, .ref q_before, .ref q_saved, .int f_isSaved, .ref q_past, .int f_pastMany, .int f_thrown, .int f_reason, .int f_detail, .int f_isRefused, .ref q_steps, .ref q_goes, .int f_goesMany, .int f_roundSteps, .ref q_line, .int f_lineMany, .ref q_text, .int f_length, .int f_at, .int f_isWrong, .int f_errorAt, .ref q_orders, .int f_orderMany])), (q_s, .inl (g 0, 147, .inl a_s))]) 59 [] [.double t0] := by
    intro t0 f_thrown h
    cases h
    exact z_dretW X hQ hA hr dX12_meanSleep_59
  have H24 : ∀ (n : Nat) (x1 : Int32) (x2 : Int32) (x3 : Int32) (f_thrown : Int32), L_X12_meanSleep_24 a_s  n x1 x2 x3 f_thrown = some o → Z p l e { frames := 2, cells := 0, slots := 0, locals := 42 } s m args below meth c Q 4 0 0 (IW D A s [(q_this, .inr (12, [.ref q_s, .ref q_before, .ref q_saved, .int f_isSaved, .ref q_past, .int f_pastMany, .int f_thrown, .int f_reason, .int f_detail, .int f_isRefused, .ref q_steps, .ref q_goes, .int f_goesMany, .int f_roundSteps, .ref q_line, .int f_lineMany, .ref q_text, .int f_length, .int f_at, .int f_isWrong, .int f_errorAt, .ref q_orders, .int f_orderMany])), (q_s, .inl (g 0, 147, .inl a_s))]) 24 [(0, .ref q_this), (1, .int x1), (2, .int x2), (3, .int x3)] [] := by
    intro n
    induction n with
    | zero => intro x1 x2 x3 f_thrown h; cases h
    | succ n24 ih24 =>
      intro x1 x2 x3 f_thrown h
      refine z_iload_n X 3 dX12_meanSleep_24 rfl rfl ?_
      refine z_iload_n X 1 dX12_meanSleep_25 rfl rfl ?_
      refine z_icmp_ge X 43 dX12_meanSleep_26 (by decide) h (fun _ h => ?_) (fun _ h => ?_)
      · refine z_aload_n X 0 dX12_meanSleep_43 rfl rfl ?_
        refine z_get (q0 := 0) (k := 6) (ci := 12) X IW_P iw_X12 rfl qf_X12_X12_thrown (by decide) dX12_meanSleep_44 rfl rfl ?_
        refine z_if_le X 54 dX12_meanSleep_47 (by decide) h (fun _ h => ?_) (fun _ h => ?_)
        · refine z_iload_n X 2 dX12_meanSleep_54 rfl rfl ?_
          refine z_i2d X dX12_meanSleep_55 ?_
          refine z_iload_n X 1 dX12_meanSleep_56 rfl rfl ?_
          refine z_i2d X dX12_meanSleep_57 ?_
          obtain ⟨e1, h⟩ := grd_p h
          refine z_ddiv X e1 dX12_meanSleep_58 ?_
          refine z_sub (lv' := []) [] rfl ?_
          exact H59 (FP.ddiv (FP.i2d x2) (FP.i2d x1)) f_thrown h
        · refine z_dconst0 X dX12_meanSleep_50 ?_
          refine z_goto X 59 dX12_meanSleep_51 (by decide) ?_
          refine z_sub (lv' := []) [] rfl ?_
          exact H59 FP.dconst0 f_thrown h
      · refine z_iload_n X 2 dX12_meanSleep_29 rfl rfl ?_
        refine z_aload_n X 0 dX12_meanSleep_30 rfl rfl ?_
        refine z_iload_n X 3 dX12_meanSleep_31 rfl rfl ?_
        obtain ⟨o2, e3, h⟩ := bnd_p h
        refine z_rdV (rest := [.int x2]) (q0 := 0) (ci := 12) X IW_P k_X12_sleep (c_X12_sleep l D g q_this q_s q_before q_saved q_past q_steps q_goes q_line q_text q_orders x3 f_isSaved f_pastMany f_thrown f_reason f_detail f_isRefused f_goesMany f_roundSteps f_lineMany f_length f_at f_isWrong f_errorAt f_orderMany a_s o2 e3) ql_X12_X12_sleep dX12_meanSleep_32 [0, 1] rfl rfl rfl rfl rfl rfl ⟨Nat.le_of_ble_eq_true rfl, Nat.le_of_ble_eq_true rfl, rfl, rfl, Nat.le_of_ble_eq_true rfl, Nat.le_of_ble_eq_true rfl⟩ (Nat.le_of_ble_eq_true rfl) ?_
        refine z_iadd X dX12_meanSleep_35 ?_
        refine z_istore_n X [(2, .int (x2 + o2)), (0, .ref q_this), (1, .int x1), (3, .int x3)] dX12_meanSleep_36 rfl (by decide) rfl ?_
        refine z_iinc X 3 [(3, .int (x3 + 1)), (2, .int (x2 + o2)), (0, .ref q_this), (1, .int x1)] dX12_meanSleep_37 rfl rfl (by decide) rfl ?_
        refine z_goto X 24 dX12_meanSleep_40 (by decide) ?_
        refine z_sub (lv' := [(0, .ref q_this), (1, .int x1), (2, .int (x2 + o2)), (3, .int (x3 + 1))]) [2, 3, 1, 0] rfl ?_
        exact ih24 x1 (x2 + o2) (x3 + 1) f_thrown h
  have H17 : ∀ (t0 : Int32) (x1 : Int32) (f_thrown : Int32), J_X12_meanSleep_17 a_s t0 x1 f_thrown = some o → Z p l e { frames := 2, cells := 0, slots := 0, locals := 42 } s m args below meth c Q 4 0 0 (IW D A s [(q_this, .inr (12, [.ref q_s, .ref q_before, .ref q_saved, .int f_isSaved, .ref q_past, .int f_pastMany, .int f_thrown, .int f_reason, .int f_detail, .int f_isRefused, .ref q_steps, .ref q_goes, .int f_goesMany, .int f_roundSteps, .ref q_line, .int f_lineMany, .ref q_text, .int f_length, .int f_at, .int f_isWrong, .int f_errorAt, .ref q_orders, .int f_orderMany])), (q_s, .inl (g 0, 147, .inl a_s))]) 17 [(0, .ref q_this), (1, .int x1)] [.int t0, .ref q_this] := by
    intro t0 x1 f_thrown h
    refine z_put (q0 := 0) (k := 6) (ci := 12) (ws' := [(q_this, .inr (12, [.ref q_s, .ref q_before, .ref q_saved, .int f_isSaved, .ref q_past, .int f_pastMany, .int t0, .int f_reason, .int f_detail, .int f_isRefused, .ref q_steps, .ref q_goes, .int f_goesMany, .int f_roundSteps, .ref q_line, .int f_lineMany, .ref q_text, .int f_length, .int f_at, .int f_isWrong, .int f_errorAt, .ref q_orders, .int f_orderMany])), (q_s, .inl (g 0, 147, .inl a_s))]) X iw_X12 tyX12_ok nmX12 rfl qf_X12_X12_thrown (by decide) rfl rfl dX12_meanSleep_17 rfl rfl rfl (Nat.le_of_ble_eq_true rfl) rfl ?_
    refine z_iconst X (0 : Int32) dX12_meanSleep_20 (by decide) ?_
    refine z_istore_n X [(2, .int (0 : Int32)), (0, .ref q_this), (1, .int x1)] dX12_meanSleep_21 rfl (by decide) rfl ?_
    refine z_iconst X (0 : Int32) dX12_meanSleep_22 (by decide) ?_
    refine z_istore_n X [(3, .int (0 : Int32)), (2, .int (0 : Int32)), (0, .ref q_this), (1, .int x1)] dX12_meanSleep_23 rfl (by decide) rfl ?_
    refine z_sub (lv' := [(0, .ref q_this), (1, .int x1), (2, .int (0 : Int32)), (3, .int (0 : Int32))]) [2, 3, 1, 0] rfl ?_
    exact H24 100 x1 (0 : Int32) (0 : Int32) t0 h
  refine z_aload_n X 0 dX12_meanSleep_0 rfl rfl ?_
  refine z_get (q0 := 0) (k := 0) (ci := 12) X IW_P iw_X12 rfl qf_X12_X12_s (by decide) dX12_meanSleep_1 rfl rfl ?_
  refine z_iconst X (2 : Int32) dX12_meanSleep_4 (by decide) ?_
  refine z_iald (q0 := 1) X IW_P dX12_meanSleep_5 rfl h (fun h => ?_)
  refine z_istore_n X [(1, .int (a_s (2 : Int32).toNatClampNeg)), (0, .ref q_this)] dX12_meanSleep_6 rfl (by decide) rfl ?_
  refine z_aload_n X 1 dX12_meanSleep_7 rfl rfl ?_
  refine z_iload_n X 0 dX12_meanSleep_8 rfl rfl ?_
  refine z_if_ne X 16 dX12_meanSleep_9 (by decide) h (fun _ h => ?_) (fun _ h => ?_)
  · refine z_iconst X (1 : Int32) dX12_meanSleep_12 (by decide) ?_
    refine z_goto X 17 dX12_meanSleep_13 (by decide) ?_
    refine z_sub (lv' := [(0, .ref q_this), (1, .int (a_s (2 : Int32).toNatClampNeg))]) [1, 0] rfl ?_
    exact H17 (1 : Int32) (a_s (2 : Int32).toNatClampNeg) f_thrown h
  · refine z_iconst X (0 : Int32) dX12_meanSleep_16 (by decide) ?_
    refine z_sub (lv' := [(0, .ref q_this), (1, .int (a_s (2 : Int32).toNatClampNeg))]) [1, 0] rfl ?_
    exact H17 (0 : Int32) (a_s (2 : Int32).toNatClampNeg) f_thrown h

def J_X12_prankShare_50 (a_s : Nat → Int32) (t0 : UInt32) (f_thrown : Int32) : Option (UInt32 × Int32) :=
  some (t0, f_thrown)

def J_X12_prankShare_25 (a_s : Nat → Int32) (t0 : Int32) (x1 : Int32) (f_thrown : Int32) : Option (UInt32 × Int32) :=
  brn (t0 ≤ 0) (grd (inb (12 : Int32) 147) (grd (FP.fdiv (FP.i2f (a_s (12 : Int32).toNatClampNeg)) (FP.i2f x1) &&& 0x7fffffff ≤ 0x7f800000) (J_X12_prankShare_50 a_s (FP.fdiv (FP.i2f (a_s (12 : Int32).toNatClampNeg)) (FP.i2f x1)) t0))) (J_X12_prankShare_50 a_s FP.fconst0 t0)

def F_X12_prankShare (a_s : Nat → Int32) (f_thrown : Int32) : Option (UInt32 × Int32) :=
  grd (inb (5 : Int32) 147) (grd (inb (6 : Int32) 147) (brn (((a_s (5 : Int32).toNatClampNeg) + (a_s (6 : Int32).toNatClampNeg)) = 0) (J_X12_prankShare_25 a_s (1 : Int32) ((a_s (5 : Int32).toNatClampNeg) + (a_s (6 : Int32).toNatClampNeg)) f_thrown) (J_X12_prankShare_25 a_s (0 : Int32) ((a_s (5 : Int32).toNatClampNeg) + (a_s (6 : Int32).toNatClampNeg)) f_thrown)))
theorem dX12_prankShare_0 : decode cX12_prankShare 0 = .ok (.aload_n 0, 1) := by decide +kernel
theorem dX12_prankShare_1 : decode cX12_prankShare 1 = .ok (.getfield 9, 3) := by decide +kernel
theorem dX12_prankShare_4 : decode cX12_prankShare 4 = .ok (.iconst 5, 1) := by decide +kernel
theorem dX12_prankShare_5 : decode cX12_prankShare 5 = .ok (.iaload, 1) := by decide +kernel
theorem dX12_prankShare_6 : decode cX12_prankShare 6 = .ok (.aload_n 0, 1) := by decide +kernel
theorem dX12_prankShare_7 : decode cX12_prankShare 7 = .ok (.getfield 9, 3) := by decide +kernel
theorem dX12_prankShare_10 : decode cX12_prankShare 10 = .ok (.bipush 6, 2) := by decide +kernel
theorem dX12_prankShare_12 : decode cX12_prankShare 12 = .ok (.iaload, 1) := by decide +kernel
theorem dX12_prankShare_13 : decode cX12_prankShare 13 = .ok (.iadd, 1) := by decide +kernel
theorem dX12_prankShare_14 : decode cX12_prankShare 14 = .ok (.istore_n 1, 1) := by decide +kernel
theorem dX12_prankShare_15 : decode cX12_prankShare 15 = .ok (.aload_n 0, 1) := by decide +kernel
theorem dX12_prankShare_16 : decode cX12_prankShare 16 = .ok (.iload_n 1, 1) := by decide +kernel
theorem dX12_prankShare_17 : decode cX12_prankShare 17 = .ok (.ifCond .ne 7, 3) := by decide +kernel
theorem dX12_prankShare_20 : decode cX12_prankShare 20 = .ok (.iconst 1, 1) := by decide +kernel
theorem dX12_prankShare_21 : decode cX12_prankShare 21 = .ok (.goto 4, 3) := by decide +kernel
theorem dX12_prankShare_24 : decode cX12_prankShare 24 = .ok (.iconst 0, 1) := by decide +kernel
theorem dX12_prankShare_25 : decode cX12_prankShare 25 = .ok (.putfield 42, 3) := by decide +kernel
theorem dX12_prankShare_28 : decode cX12_prankShare 28 = .ok (.aload_n 0, 1) := by decide +kernel
theorem dX12_prankShare_29 : decode cX12_prankShare 29 = .ok (.getfield 42, 3) := by decide +kernel
theorem dX12_prankShare_32 : decode cX12_prankShare 32 = .ok (.ifCond .le 7, 3) := by decide +kernel
theorem dX12_prankShare_35 : decode cX12_prankShare 35 = .ok (.fconst 0, 1) := by decide +kernel
theorem dX12_prankShare_36 : decode cX12_prankShare 36 = .ok (.goto 14, 3) := by decide +kernel
theorem dX12_prankShare_39 : decode cX12_prankShare 39 = .ok (.aload_n 0, 1) := by decide +kernel
theorem dX12_prankShare_40 : decode cX12_prankShare 40 = .ok (.getfield 9, 3) := by decide +kernel
theorem dX12_prankShare_43 : decode cX12_prankShare 43 = .ok (.bipush 12, 2) := by decide +kernel
theorem dX12_prankShare_45 : decode cX12_prankShare 45 = .ok (.iaload, 1) := by decide +kernel
theorem dX12_prankShare_46 : decode cX12_prankShare 46 = .ok (.i2f, 1) := by decide +kernel
theorem dX12_prankShare_47 : decode cX12_prankShare 47 = .ok (.iload_n 1, 1) := by decide +kernel
theorem dX12_prankShare_48 : decode cX12_prankShare 48 = .ok (.i2f, 1) := by decide +kernel
theorem dX12_prankShare_49 : decode cX12_prankShare 49 = .ok (.fdiv, 1) := by decide +kernel
theorem dX12_prankShare_50 : decode cX12_prankShare 50 = .ok (.freturn, 1) := by decide +kernel
theorem k_X12_prankShare : cardV yX12_prankShare (Cond.code yX12_prankShare cX12_prankShare 2 (some .float)) 0 := ⟨⟨qi_X12_prankShare, qv_X12_prankShare⟩, qc_X12_prankShare, qn_X12, by decide +kernel, by decide +kernel, by decide +kernel⟩
set_option maxHeartbeats 4000000 in
set_option maxRecDepth 100000 in
theorem c_X12_prankShare (l : Launch) (D : va_G) (g : Nat → ClassId) (q_this q_s q_before q_saved q_past q_steps q_goes q_line q_text q_orders : Nat) (f_isSaved : Int32) (f_pastMany : Int32) (f_thrown : Int32) (f_reason : Int32) (f_detail : Int32) (f_isRefused : Int32) (f_goesMany : Int32) (f_roundSteps : Int32) (f_lineMany : Int32) (f_length : Int32) (f_at : Int32) (f_isWrong : Int32) (f_errorAt : Int32) (f_orderMany : Int32) (a_s : Nat → Int32) (o : UInt32 × Int32) (h : F_X12_prankShare a_s f_thrown = some o) : MW l yX12_prankShare (Cond.code yX12_prankShare cX12_prankShare 2 (some .float)) { frames := 0, cells := 0, slots := 0, locals := 0 } D g [.ref q_this] [(q_this, .inr (12, [.ref q_s, .ref q_before, .ref q_saved, .int f_isSaved, .ref q_past, .int f_pastMany, .int f_thrown, .int f_reason, .int f_detail, .int f_isRefused, .ref q_steps, .ref q_goes, .int f_goesMany, .int f_roundSteps, .ref q_line, .int f_lineMany, .ref q_text, .int f_length, .int f_at, .int f_isWrong, .int f_errorAt, .ref q_orders, .int f_orderMany])), (q_s, .inl (g 0, 147, .inl a_s))] (some (.float o.1)) [(q_this, .inr (12, [.ref q_s, .ref q_before, .ref q_saved, .int f_isSaved, .ref q_past, .int f_pastMany, .int o.2, .int f_reason, .int f_detail, .int f_isRefused, .ref q_steps, .ref q_goes, .int f_goesMany, .int f_roundSteps, .ref q_line, .int f_lineMany, .ref q_text, .int f_length, .int f_at, .int f_isWrong, .int f_errorAt, .ref q_orders, .int f_orderMany])), (q_s, .inl (g 0, 147, .inl a_s))] := by
  refine z_wr_start (by decide) (Nat.le_of_ble_eq_true rfl) ?_
  intro p e s m args below meth c Q A X hr hQ hA
  refine z_lv (lv' := [(0, .ref q_this)]) rfl ?_
  have H50 : ∀ (t0 : UInt32) (f_thrown : Int32), J_X12_prankShare_50 a_s t0 f_thrown = some o → Z p l e { frames := 0, cells := 0, slots := 0, locals := 0 } s m args below meth c Q 2 0 0 (IW D A s [(q_this, .inr (12, [.ref q_s, .ref q_before, .ref q_saved, .int f_isSaved, .ref q_past, .int f_pastMany, .int f_thrown, .int f_reason, .int f_detail, .int f_isRefused, .ref q_steps, .ref q_goes, .int f_goesMany, .int f_roundSteps, .ref q_line, .int f_lineMany, .ref q_text, .int f_length, .int f_at, .int f_isWrong, .int f_errorAt, .ref q_orders, .int f_orderMany])), (q_s, .inl (g 0, 147, .inl a_s))]) 50 [] [.float t0] := by
    intro t0 f_thrown h
    cases h
    exact z_fretW X hQ hA hr dX12_prankShare_50
  have H25 : ∀ (t0 : Int32) (x1 : Int32) (f_thrown : Int32), J_X12_prankShare_25 a_s t0 x1 f_thrown = some o → Z p l e { frames := 0, cells := 0, slots := 0, locals := 0 } s m args below meth c Q 2 0 0 (IW D A s [(q_this, .inr (12, [.ref q_s, .ref q_before, .ref q_saved, .int f_isSaved, .ref q_past, .int f_pastMany, .int f_thrown, .int f_reason, .int f_detail, .int f_isRefused, .ref q_steps, .ref q_goes, .int f_goesMany, .int f_roundSteps, .ref q_line, .int f_lineMany, .ref q_text, .int f_length, .int f_at, .int f_isWrong, .int f_errorAt, .ref q_orders, .int f_orderMany])), (q_s, .inl (g 0, 147, .inl a_s))]) 25 [(0, .ref q_this), (1, .int x1)] [.int t0, .ref q_this] := by
    intro t0 x1 f_thrown h
    refine z_put (q0 := 0) (k := 6) (ci := 12) (ws' := [(q_this, .inr (12, [.ref q_s, .ref q_before, .ref q_saved, .int f_isSaved, .ref q_past, .int f_pastMany, .int t0, .int f_reason, .int f_detail, .int f_isRefused, .ref q_steps, .ref q_goes, .int f_goesMany, .int f_roundSteps, .ref q_line, .int f_lineMany, .ref q_text, .int f_length, .int f_at, .int f_isWrong, .int f_errorAt, .ref q_orders, .int f_orderMany])), (q_s, .inl (g 0, 147, .inl a_s))]) X iw_X12 tyX12_ok nmX12 rfl qf_X12_X12_thrown (by decide) rfl rfl dX12_prankShare_25 rfl rfl rfl (Nat.le_of_ble_eq_true rfl) rfl ?_
    refine z_aload_n X 0 dX12_prankShare_28 rfl rfl ?_
    refine z_get (q0 := 0) (k := 6) (ci := 12) X IW_P iw_X12 rfl qf_X12_X12_thrown (by decide) dX12_prankShare_29 rfl rfl ?_
    refine z_if_le X 39 dX12_prankShare_32 (by decide) h (fun _ h => ?_) (fun _ h => ?_)
    · refine z_aload_n X 0 dX12_prankShare_39 rfl rfl ?_
      refine z_get (q0 := 0) (k := 0) (ci := 12) X IW_P iw_X12 rfl qf_X12_X12_s (by decide) dX12_prankShare_40 rfl rfl ?_
      refine z_bipush X (12 : Int32) dX12_prankShare_43 (by decide) ?_
      refine z_iald (q0 := 1) X IW_P dX12_prankShare_45 rfl h (fun h => ?_)
      refine z_i2f X dX12_prankShare_46 ?_
      refine z_iload_n X 1 dX12_prankShare_47 rfl rfl ?_
      refine z_i2f X dX12_prankShare_48 ?_
      obtain ⟨e1, h⟩ := grd_p h
      refine z_fdiv X e1 dX12_prankShare_49 ?_
      refine z_sub (lv' := []) [] rfl ?_
      exact H50 (FP.fdiv (FP.i2f (a_s (12 : Int32).toNatClampNeg)) (FP.i2f x1)) t0 h
    · refine z_fconst0 X dX12_prankShare_35 ?_
      refine z_goto X 50 dX12_prankShare_36 (by decide) ?_
      refine z_sub (lv' := []) [] rfl ?_
      exact H50 FP.fconst0 t0 h
  refine z_aload_n X 0 dX12_prankShare_0 rfl rfl ?_
  refine z_get (q0 := 0) (k := 0) (ci := 12) X IW_P iw_X12 rfl qf_X12_X12_s (by decide) dX12_prankShare_1 rfl rfl ?_
  refine z_iconst X (5 : Int32) dX12_prankShare_4 (by decide) ?_
  refine z_iald (q0 := 1) X IW_P dX12_prankShare_5 rfl h (fun h => ?_)
  refine z_aload_n X 0 dX12_prankShare_6 rfl rfl ?_
  refine z_get (q0 := 0) (k := 0) (ci := 12) X IW_P iw_X12 rfl qf_X12_X12_s (by decide) dX12_prankShare_7 rfl rfl ?_
  refine z_bipush X (6 : Int32) dX12_prankShare_10 (by decide) ?_
  refine z_iald (q0 := 1) X IW_P dX12_prankShare_12 rfl h (fun h => ?_)
  refine z_iadd X dX12_prankShare_13 ?_
  refine z_istore_n X [(1, .int ((a_s (5 : Int32).toNatClampNeg) + (a_s (6 : Int32).toNatClampNeg))), (0, .ref q_this)] dX12_prankShare_14 rfl (by decide) rfl ?_
  refine z_aload_n X 1 dX12_prankShare_15 rfl rfl ?_
  refine z_iload_n X 0 dX12_prankShare_16 rfl rfl ?_
  refine z_if_ne X 24 dX12_prankShare_17 (by decide) h (fun _ h => ?_) (fun _ h => ?_)
  · refine z_iconst X (1 : Int32) dX12_prankShare_20 (by decide) ?_
    refine z_goto X 25 dX12_prankShare_21 (by decide) ?_
    refine z_sub (lv' := [(0, .ref q_this), (1, .int ((a_s (5 : Int32).toNatClampNeg) + (a_s (6 : Int32).toNatClampNeg)))]) [1, 0] rfl ?_
    exact H25 (1 : Int32) ((a_s (5 : Int32).toNatClampNeg) + (a_s (6 : Int32).toNatClampNeg)) f_thrown h
  · refine z_iconst X (0 : Int32) dX12_prankShare_24 (by decide) ?_
    refine z_sub (lv' := [(0, .ref q_this), (1, .int ((a_s (5 : Int32).toNatClampNeg) + (a_s (6 : Int32).toNatClampNeg)))]) [1, 0] rfl ?_
    exact H25 (0 : Int32) ((a_s (5 : Int32).toNatClampNeg) + (a_s (6 : Int32).toNatClampNeg)) f_thrown h
