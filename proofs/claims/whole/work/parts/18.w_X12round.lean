def J_X12_round_24 (p1 : Int32) (a_s : Nat → Int32) (t0 : Int32) (f_thrown : Int32) (f_goesMany : Int32) (f_roundSteps : Int32) (a_steps : Nat → Int32) (a_goes : Nat → Int32) : Option (Int32 × Int32 × Int32 × Int32 × (Nat → Int32) × (Nat → Int32)) :=
  brn (t0 ≤ 0) (grd (inb p1 10) (some (a_goes p1.toNatClampNeg, t0, f_goesMany, f_roundSteps, a_steps, a_goes))) (some ((0 : Int32), t0, f_goesMany, f_roundSteps, a_steps, a_goes))

def F_X12_round (p1 : Int32) (a_s : Nat → Int32) (f_thrown : Int32) (f_goesMany : Int32) (f_roundSteps : Int32) (a_steps : Nat → Int32) (a_goes : Nat → Int32) : Option (Int32 × Int32 × Int32 × Int32 × (Nat → Int32) × (Nat → Int32)) :=
  bnd (F_X12_tellsRound a_s f_goesMany f_roundSteps a_steps a_goes) (fun o1 => bnd (F_X12_in p1 (0 : Int32) (o1.1 - (1 : Int32))) (fun o3 => brn (o3 = 0) (J_X12_round_24 p1 a_s (1 : Int32) f_thrown o1.1 o1.2.1 o1.2.2.1 o1.2.2.2) (J_X12_round_24 p1 a_s (0 : Int32) f_thrown o1.1 o1.2.1 o1.2.2.1 o1.2.2.2)))
theorem dX12_round_0 : decode cX12_round 0 = .ok (.aload_n 0, 1) := by decide +kernel
theorem dX12_round_1 : decode cX12_round 1 = .ok (.invokevirtual 202, 3) := by decide +kernel
theorem dX12_round_4 : decode cX12_round 4 = .ok (.aload_n 0, 1) := by decide +kernel
theorem dX12_round_5 : decode cX12_round 5 = .ok (.iload_n 1, 1) := by decide +kernel
theorem dX12_round_6 : decode cX12_round 6 = .ok (.iconst 0, 1) := by decide +kernel
theorem dX12_round_7 : decode cX12_round 7 = .ok (.aload_n 0, 1) := by decide +kernel
theorem dX12_round_8 : decode cX12_round 8 = .ok (.getfield 196, 3) := by decide +kernel
theorem dX12_round_11 : decode cX12_round 11 = .ok (.iconst 1, 1) := by decide +kernel
theorem dX12_round_12 : decode cX12_round 12 = .ok (.isub, 1) := by decide +kernel
theorem dX12_round_13 : decode cX12_round 13 = .ok (.invokestatic 64, 3) := by decide +kernel
theorem dX12_round_16 : decode cX12_round 16 = .ok (.ifCond .eq 7, 3) := by decide +kernel
theorem dX12_round_19 : decode cX12_round 19 = .ok (.iconst 0, 1) := by decide +kernel
theorem dX12_round_20 : decode cX12_round 20 = .ok (.goto 4, 3) := by decide +kernel
theorem dX12_round_23 : decode cX12_round 23 = .ok (.iconst 1, 1) := by decide +kernel
theorem dX12_round_24 : decode cX12_round 24 = .ok (.putfield 42, 3) := by decide +kernel
theorem dX12_round_27 : decode cX12_round 27 = .ok (.aload_n 0, 1) := by decide +kernel
theorem dX12_round_28 : decode cX12_round 28 = .ok (.getfield 42, 3) := by decide +kernel
theorem dX12_round_31 : decode cX12_round 31 = .ok (.ifCond .le 7, 3) := by decide +kernel
theorem dX12_round_34 : decode cX12_round 34 = .ok (.iconst 0, 1) := by decide +kernel
theorem dX12_round_35 : decode cX12_round 35 = .ok (.goto 9, 3) := by decide +kernel
theorem dX12_round_38 : decode cX12_round 38 = .ok (.aload_n 0, 1) := by decide +kernel
theorem dX12_round_39 : decode cX12_round 39 = .ok (.getfield 25, 3) := by decide +kernel
theorem dX12_round_42 : decode cX12_round 42 = .ok (.iload_n 1, 1) := by decide +kernel
theorem dX12_round_43 : decode cX12_round 43 = .ok (.iaload, 1) := by decide +kernel
theorem dX12_round_44 : decode cX12_round 44 = .ok (.ireturn, 1) := by decide +kernel
theorem k_X12_round : cardV yX12_round (Cond.code yX12_round cX12_round 2 (some .int)) 1 := ⟨⟨qi_X12_round, qv_X12_round⟩, qc_X12_round, qn_X12, by decide +kernel, by decide +kernel, by decide +kernel⟩
set_option maxHeartbeats 4000000 in
set_option maxRecDepth 100000 in
theorem c_X12_round (l : Launch) (D : va_G) (g : Nat → ClassId) (q_this q_s q_before q_saved q_past q_steps q_goes q_line q_text q_orders : Nat) (p1 : Int32) (f_isSaved : Int32) (f_pastMany : Int32) (f_thrown : Int32) (f_reason : Int32) (f_detail : Int32) (f_isRefused : Int32) (f_goesMany : Int32) (f_roundSteps : Int32) (f_lineMany : Int32) (f_length : Int32) (f_at : Int32) (f_isWrong : Int32) (f_errorAt : Int32) (f_orderMany : Int32) (a_s : Nat → Int32) (a_steps : Nat → Int32) (a_goes : Nat → Int32) (o : Int32 × Int32 × Int32 × Int32 × (Nat → Int32) × (Nat → Int32)) (h : F_X12_round p1 a_s f_thrown f_goesMany f_roundSteps a_steps a_goes = some o) : MW l yX12_round (Cond.code yX12_round cX12_round 2 (some .int)) { frames := 4, cells := 0, slots := 0, locals := 110 } D g [.ref q_this, .int p1] [(q_this, .inr (12, [.ref q_s, .ref q_before, .ref q_saved, .int f_isSaved, .ref q_past, .int f_pastMany, .int f_thrown, .int f_reason, .int f_detail, .int f_isRefused, .ref q_steps, .ref q_goes, .int f_goesMany, .int f_roundSteps, .ref q_line, .int f_lineMany, .ref q_text, .int f_length, .int f_at, .int f_isWrong, .int f_errorAt, .ref q_orders, .int f_orderMany])), (q_s, .inl (g 0, 147, .inl a_s)), (q_steps, .inl (g 0, 64, .inl a_steps)), (q_goes, .inl (g 0, 10, .inl a_goes))] (some (.int o.1)) [(q_this, .inr (12, [.ref q_s, .ref q_before, .ref q_saved, .int f_isSaved, .ref q_past, .int f_pastMany, .int o.2.1, .int f_reason, .int f_detail, .int f_isRefused, .ref q_steps, .ref q_goes, .int o.2.2.1, .int o.2.2.2.1, .ref q_line, .int f_lineMany, .ref q_text, .int f_length, .int f_at, .int f_isWrong, .int f_errorAt, .ref q_orders, .int f_orderMany])), (q_s, .inl (g 0, 147, .inl a_s)), (q_steps, .inl (g 0, 64, .inl o.2.2.2.2.1)), (q_goes, .inl (g 0, 10, .inl o.2.2.2.2.2))] := by
  refine z_wr_start (by decide) (Nat.le_of_ble_eq_true rfl) ?_
  intro p e s m args below meth c Q A X hr hQ hA
  refine z_lv (lv' := [(0, .ref q_this), (1, .int p1)]) rfl ?_
  have H24 : ∀ (t0 : Int32) (f_thrown : Int32) (f_goesMany : Int32) (f_roundSteps : Int32) (a_steps : Nat → Int32) (a_goes : Nat → Int32), J_X12_round_24 p1 a_s t0 f_thrown f_goesMany f_roundSteps a_steps a_goes = some o → Z p l e { frames := 4, cells := 0, slots := 0, locals := 110 } s m args below meth c Q 2 0 0 (IW D A s [(q_this, .inr (12, [.ref q_s, .ref q_before, .ref q_saved, .int f_isSaved, .ref q_past, .int f_pastMany, .int f_thrown, .int f_reason, .int f_detail, .int f_isRefused, .ref q_steps, .ref q_goes, .int f_goesMany, .int f_roundSteps, .ref q_line, .int f_lineMany, .ref q_text, .int f_length, .int f_at, .int f_isWrong, .int f_errorAt, .ref q_orders, .int f_orderMany])), (q_s, .inl (g 0, 147, .inl a_s)), (q_steps, .inl (g 0, 64, .inl a_steps)), (q_goes, .inl (g 0, 10, .inl a_goes))]) 24 [(0, .ref q_this), (1, .int p1)] [.int t0, .ref q_this] := by
    intro t0 f_thrown f_goesMany f_roundSteps a_steps a_goes h
    refine z_put (q0 := 0) (k := 6) (ci := 12) (ws' := [(q_this, .inr (12, [.ref q_s, .ref q_before, .ref q_saved, .int f_isSaved, .ref q_past, .int f_pastMany, .int t0, .int f_reason, .int f_detail, .int f_isRefused, .ref q_steps, .ref q_goes, .int f_goesMany, .int f_roundSteps, .ref q_line, .int f_lineMany, .ref q_text, .int f_length, .int f_at, .int f_isWrong, .int f_errorAt, .ref q_orders, .int f_orderMany])), (q_s, .inl (g 0, 147, .inl a_s)), (q_steps, .inl (g 0, 64, .inl a_steps)), (q_goes, .inl (g 0, 10, .inl a_goes))]) X iw_X12 tyX12_ok nmX12 rfl qf_X12_X12_thrown (by decide) rfl rfl dX12_round_24 rfl rfl rfl (Nat.le_of_ble_eq_true rfl) rfl ?_
    refine z_aload_n X 0 dX12_round_27 rfl rfl ?_
    refine z_get (q0 := 0) (k := 6) (ci := 12) X IW_P iw_X12 rfl qf_X12_X12_thrown (by decide) dX12_round_28 rfl rfl ?_
    refine z_if_le X 38 dX12_round_31 (by decide) h (fun _ h => ?_) (fun _ h => ?_)
    · refine z_aload_n X 0 dX12_round_38 rfl rfl ?_
      refine z_get (q0 := 0) (k := 11) (ci := 12) X IW_P iw_X12 rfl qf_X12_X12_goes (by decide) dX12_round_39 rfl rfl ?_
      refine z_iload_n X 1 dX12_round_42 rfl rfl ?_
      refine z_iald (q0 := 3) X IW_P dX12_round_43 rfl h (fun h => ?_)
      cases h
      exact z_iretW X hQ hA hr dX12_round_44
    · refine z_iconst X (0 : Int32) dX12_round_34 (by decide) ?_
      refine z_goto X 44 dX12_round_35 (by decide) ?_
      cases h
      exact z_iretW X hQ hA hr dX12_round_44
  refine z_aload_n X 0 dX12_round_0 rfl rfl ?_
  obtain ⟨o1, e2, h⟩ := bnd_p h
  refine z_wrV (rest := []) (q0 := 0) (ci := 12) (ws' := [(q_this, .inr (12, [.ref q_s, .ref q_before, .ref q_saved, .int f_isSaved, .ref q_past, .int f_pastMany, .int f_thrown, .int f_reason, .int f_detail, .int f_isRefused, .ref q_steps, .ref q_goes, .int o1.1, .int o1.2.1, .ref q_line, .int f_lineMany, .ref q_text, .int f_length, .int f_at, .int f_isWrong, .int f_errorAt, .ref q_orders, .int f_orderMany])), (q_s, .inl (g 0, 147, .inl a_s)), (q_steps, .inl (g 0, 64, .inl o1.2.2.1)), (q_goes, .inl (g 0, 10, .inl o1.2.2.2))]) (wr := []) (as := [q_this, q_s, q_steps, q_goes]) X k_X12_tellsRound (c_X12_tellsRound l D g q_this q_s q_before q_saved q_past q_steps q_goes q_line q_text q_orders f_isSaved f_pastMany f_thrown f_reason f_detail f_isRefused f_goesMany f_roundSteps f_lineMany f_length f_at f_isWrong f_errorAt f_orderMany a_s a_steps a_goes o1 e2) ql_X12_X12_tellsRound dX12_round_1 [0, 1, 2, 3] [] ⟨rfl, rfl, rfl, rfl, rfl, rfl, rfl, rfl⟩ rfl rfl rfl rfl rfl ⟨Nat.le_of_ble_eq_true rfl, Nat.le_of_ble_eq_true rfl, rfl, rfl, Nat.le_of_ble_eq_true rfl, Nat.le_of_ble_eq_true rfl⟩ (Nat.le_of_ble_eq_true rfl) ?_
  refine z_aload_n X 0 dX12_round_4 rfl rfl ?_
  refine z_iload_n X 1 dX12_round_5 rfl rfl ?_
  refine z_iconst X (0 : Int32) dX12_round_6 (by decide) ?_
  refine z_aload_n X 0 dX12_round_7 rfl rfl ?_
  refine z_get (q0 := 0) (k := 12) (ci := 12) X IW_P iw_X12 rfl qf_X12_X12_goesMany (by decide) dX12_round_8 rfl rfl ?_
  refine z_iconst X (1 : Int32) dX12_round_11 (by decide) ?_
  refine z_isub X dX12_round_12 ?_
  obtain ⟨o3, e4, h⟩ := bnd_p h
  refine z_rdS (rest := [.ref q_this]) X IW_P k_X12_in (c_X12_in l D g p1 (0 : Int32) (o1.1 - (1 : Int32)) o3 e4) ql_X12_X12_in dX12_round_13 [] rfl rfl rfl ⟨Nat.le_of_ble_eq_true rfl, Nat.le_of_ble_eq_true rfl, rfl, rfl, Nat.le_of_ble_eq_true rfl, Nat.le_of_ble_eq_true rfl⟩ (Nat.le_of_ble_eq_true rfl) ?_
  refine z_if_eq X 23 dX12_round_16 (by decide) h (fun _ h => ?_) (fun _ h => ?_)
  · refine z_iconst X (1 : Int32) dX12_round_23 (by decide) ?_
    exact H24 (1 : Int32) f_thrown o1.1 o1.2.1 o1.2.2.1 o1.2.2.2 h
  · refine z_iconst X (0 : Int32) dX12_round_19 (by decide) ?_
    refine z_goto X 24 dX12_round_20 (by decide) ?_
    exact H24 (0 : Int32) f_thrown o1.1 o1.2.1 o1.2.2.1 o1.2.2.2 h

def F_X12_steps (a_s : Nat → Int32) (f_thrown : Int32) (f_goesMany : Int32) (f_roundSteps : Int32) (a_steps : Nat → Int32) (a_goes : Nat → Int32) : Option (Int32 × Int32 × Int32 × Int32 × (Nat → Int32) × (Nat → Int32)) :=
  bnd (F_X12_tellsRound a_s f_goesMany f_roundSteps a_steps a_goes) (fun o1 => some (o1.2.1, (0 : Int32), o1.1, o1.2.1, o1.2.2.1, o1.2.2.2))
theorem dX12_steps_0 : decode cX12_steps 0 = .ok (.aload_n 0, 1) := by decide +kernel
theorem dX12_steps_1 : decode cX12_steps 1 = .ok (.iconst 0, 1) := by decide +kernel
theorem dX12_steps_2 : decode cX12_steps 2 = .ok (.putfield 42, 3) := by decide +kernel
theorem dX12_steps_5 : decode cX12_steps 5 = .ok (.aload_n 0, 1) := by decide +kernel
theorem dX12_steps_6 : decode cX12_steps 6 = .ok (.invokevirtual 202, 3) := by decide +kernel
theorem dX12_steps_9 : decode cX12_steps 9 = .ok (.aload_n 0, 1) := by decide +kernel
theorem dX12_steps_10 : decode cX12_steps 10 = .ok (.getfield 199, 3) := by decide +kernel
theorem dX12_steps_13 : decode cX12_steps 13 = .ok (.ireturn, 1) := by decide +kernel
theorem k_X12_steps : cardV yX12_steps (Cond.code yX12_steps cX12_steps 1 (some .int)) 0 := ⟨⟨qi_X12_steps, qv_X12_steps⟩, qc_X12_steps, qn_X12, by decide +kernel, by decide +kernel, by decide +kernel⟩
set_option maxHeartbeats 4000000 in
set_option maxRecDepth 100000 in
theorem c_X12_steps (l : Launch) (D : va_G) (g : Nat → ClassId) (q_this q_s q_before q_saved q_past q_steps q_goes q_line q_text q_orders : Nat) (f_isSaved : Int32) (f_pastMany : Int32) (f_thrown : Int32) (f_reason : Int32) (f_detail : Int32) (f_isRefused : Int32) (f_goesMany : Int32) (f_roundSteps : Int32) (f_lineMany : Int32) (f_length : Int32) (f_at : Int32) (f_isWrong : Int32) (f_errorAt : Int32) (f_orderMany : Int32) (a_s : Nat → Int32) (a_steps : Nat → Int32) (a_goes : Nat → Int32) (o : Int32 × Int32 × Int32 × Int32 × (Nat → Int32) × (Nat → Int32)) (h : F_X12_steps a_s f_thrown f_goesMany f_roundSteps a_steps a_goes = some o) : MW l yX12_steps (Cond.code yX12_steps cX12_steps 1 (some .int)) { frames := 4, cells := 0, slots := 0, locals := 110 } D g [.ref q_this] [(q_this, .inr (12, [.ref q_s, .ref q_before, .ref q_saved, .int f_isSaved, .ref q_past, .int f_pastMany, .int f_thrown, .int f_reason, .int f_detail, .int f_isRefused, .ref q_steps, .ref q_goes, .int f_goesMany, .int f_roundSteps, .ref q_line, .int f_lineMany, .ref q_text, .int f_length, .int f_at, .int f_isWrong, .int f_errorAt, .ref q_orders, .int f_orderMany])), (q_s, .inl (g 0, 147, .inl a_s)), (q_steps, .inl (g 0, 64, .inl a_steps)), (q_goes, .inl (g 0, 10, .inl a_goes))] (some (.int o.1)) [(q_this, .inr (12, [.ref q_s, .ref q_before, .ref q_saved, .int f_isSaved, .ref q_past, .int f_pastMany, .int o.2.1, .int f_reason, .int f_detail, .int f_isRefused, .ref q_steps, .ref q_goes, .int o.2.2.1, .int o.2.2.2.1, .ref q_line, .int f_lineMany, .ref q_text, .int f_length, .int f_at, .int f_isWrong, .int f_errorAt, .ref q_orders, .int f_orderMany])), (q_s, .inl (g 0, 147, .inl a_s)), (q_steps, .inl (g 0, 64, .inl o.2.2.2.2.1)), (q_goes, .inl (g 0, 10, .inl o.2.2.2.2.2))] := by
  refine z_wr_start (by decide) (Nat.le_of_ble_eq_true rfl) ?_
  intro p e s m args below meth c Q A X hr hQ hA
  refine z_lv (lv' := [(0, .ref q_this)]) rfl ?_
  refine z_aload_n X 0 dX12_steps_0 rfl rfl ?_
  refine z_iconst X (0 : Int32) dX12_steps_1 (by decide) ?_
  refine z_put (q0 := 0) (k := 6) (ci := 12) (ws' := [(q_this, .inr (12, [.ref q_s, .ref q_before, .ref q_saved, .int f_isSaved, .ref q_past, .int f_pastMany, .int (0 : Int32), .int f_reason, .int f_detail, .int f_isRefused, .ref q_steps, .ref q_goes, .int f_goesMany, .int f_roundSteps, .ref q_line, .int f_lineMany, .ref q_text, .int f_length, .int f_at, .int f_isWrong, .int f_errorAt, .ref q_orders, .int f_orderMany])), (q_s, .inl (g 0, 147, .inl a_s)), (q_steps, .inl (g 0, 64, .inl a_steps)), (q_goes, .inl (g 0, 10, .inl a_goes))]) X iw_X12 tyX12_ok nmX12 rfl qf_X12_X12_thrown (by decide) rfl rfl dX12_steps_2 rfl rfl rfl (Nat.le_of_ble_eq_true rfl) rfl ?_
  refine z_aload_n X 0 dX12_steps_5 rfl rfl ?_
  obtain ⟨o1, e2, h⟩ := bnd_p h
  refine z_wrV (rest := []) (q0 := 0) (ci := 12) (ws' := [(q_this, .inr (12, [.ref q_s, .ref q_before, .ref q_saved, .int f_isSaved, .ref q_past, .int f_pastMany, .int (0 : Int32), .int f_reason, .int f_detail, .int f_isRefused, .ref q_steps, .ref q_goes, .int o1.1, .int o1.2.1, .ref q_line, .int f_lineMany, .ref q_text, .int f_length, .int f_at, .int f_isWrong, .int f_errorAt, .ref q_orders, .int f_orderMany])), (q_s, .inl (g 0, 147, .inl a_s)), (q_steps, .inl (g 0, 64, .inl o1.2.2.1)), (q_goes, .inl (g 0, 10, .inl o1.2.2.2))]) (wr := []) (as := [q_this, q_s, q_steps, q_goes]) X k_X12_tellsRound (c_X12_tellsRound l D g q_this q_s q_before q_saved q_past q_steps q_goes q_line q_text q_orders f_isSaved f_pastMany (0 : Int32) f_reason f_detail f_isRefused f_goesMany f_roundSteps f_lineMany f_length f_at f_isWrong f_errorAt f_orderMany a_s a_steps a_goes o1 e2) ql_X12_X12_tellsRound dX12_steps_6 [0, 1, 2, 3] [] ⟨rfl, rfl, rfl, rfl, rfl, rfl, rfl, rfl⟩ rfl rfl rfl rfl rfl ⟨Nat.le_of_ble_eq_true rfl, Nat.le_of_ble_eq_true rfl, rfl, rfl, Nat.le_of_ble_eq_true rfl, Nat.le_of_ble_eq_true rfl⟩ (Nat.le_of_ble_eq_true rfl) ?_
  refine z_aload_n X 0 dX12_steps_9 rfl rfl ?_
  refine z_get (q0 := 0) (k := 13) (ci := 12) X IW_P iw_X12 rfl qf_X12_X12_roundSteps (by decide) dX12_steps_10 rfl rfl ?_
  cases h
  exact z_iretW X hQ hA hr dX12_steps_13

def J_X12_isAhead_51 (p1 : Int32) (p2 : Int32) (a_s : Nat → Int32) (t0 : Int32) : Option (Int32) :=
  brn (0 < t0) (some ((1 : Int32))) (brn (t0 = 0) (brn (p2 ≤ p1) (some ((0 : Int32))) (some ((1 : Int32)))) (some ((0 : Int32))))

def F_X12_isAhead (p1 : Int32) (p2 : Int32) (a_s : Nat → Int32) : Option (Int32) :=
  bnd (F_X12_at p1 (4 : Int32)) (fun o1 => grd (inb o1 147) (bnd (F_X12_at p2 (4 : Int32)) (fun o3 => grd (inb o3 147) (brn (((a_s o1.toNatClampNeg) - (a_s o3.toNatClampNeg)) = 0) (bnd (F_X12_at p1 (3 : Int32)) (fun o5 => grd (inb o5 147) (bnd (F_X12_at p2 (3 : Int32)) (fun o7 => grd (inb o7 147) (J_X12_isAhead_51 p1 p2 a_s ((a_s o5.toNatClampNeg) - (a_s o7.toNatClampNeg))))))) (J_X12_isAhead_51 p1 p2 a_s ((a_s o1.toNatClampNeg) - (a_s o3.toNatClampNeg)))))))
theorem dX12_isAhead_0 : decode cX12_isAhead 0 = .ok (.aload_n 0, 1) := by decide +kernel
theorem dX12_isAhead_1 : decode cX12_isAhead 1 = .ok (.getfield 9, 3) := by decide +kernel
theorem dX12_isAhead_4 : decode cX12_isAhead 4 = .ok (.iload_n 1, 1) := by decide +kernel
theorem dX12_isAhead_5 : decode cX12_isAhead 5 = .ok (.iconst 4, 1) := by decide +kernel
theorem dX12_isAhead_6 : decode cX12_isAhead 6 = .ok (.invokestatic 68, 3) := by decide +kernel
theorem dX12_isAhead_9 : decode cX12_isAhead 9 = .ok (.iaload, 1) := by decide +kernel
theorem dX12_isAhead_10 : decode cX12_isAhead 10 = .ok (.aload_n 0, 1) := by decide +kernel
theorem dX12_isAhead_11 : decode cX12_isAhead 11 = .ok (.getfield 9, 3) := by decide +kernel
theorem dX12_isAhead_14 : decode cX12_isAhead 14 = .ok (.iload_n 2, 1) := by decide +kernel
theorem dX12_isAhead_15 : decode cX12_isAhead 15 = .ok (.iconst 4, 1) := by decide +kernel
theorem dX12_isAhead_16 : decode cX12_isAhead 16 = .ok (.invokestatic 68, 3) := by decide +kernel
theorem dX12_isAhead_19 : decode cX12_isAhead 19 = .ok (.iaload, 1) := by decide +kernel
theorem dX12_isAhead_20 : decode cX12_isAhead 20 = .ok (.isub, 1) := by decide +kernel
theorem dX12_isAhead_21 : decode cX12_isAhead 21 = .ok (.istore_n 3, 1) := by decide +kernel
theorem dX12_isAhead_22 : decode cX12_isAhead 22 = .ok (.iload_n 3, 1) := by decide +kernel
theorem dX12_isAhead_23 : decode cX12_isAhead 23 = .ok (.ifCond .eq 7, 3) := by decide +kernel
theorem dX12_isAhead_26 : decode cX12_isAhead 26 = .ok (.iload_n 3, 1) := by decide +kernel
theorem dX12_isAhead_27 : decode cX12_isAhead 27 = .ok (.goto 24, 3) := by decide +kernel
theorem dX12_isAhead_30 : decode cX12_isAhead 30 = .ok (.aload_n 0, 1) := by decide +kernel
theorem dX12_isAhead_31 : decode cX12_isAhead 31 = .ok (.getfield 9, 3) := by decide +kernel
theorem dX12_isAhead_34 : decode cX12_isAhead 34 = .ok (.iload_n 1, 1) := by decide +kernel
theorem dX12_isAhead_35 : decode cX12_isAhead 35 = .ok (.iconst 3, 1) := by decide +kernel
theorem dX12_isAhead_36 : decode cX12_isAhead 36 = .ok (.invokestatic 68, 3) := by decide +kernel
theorem dX12_isAhead_39 : decode cX12_isAhead 39 = .ok (.iaload, 1) := by decide +kernel
theorem dX12_isAhead_40 : decode cX12_isAhead 40 = .ok (.aload_n 0, 1) := by decide +kernel
theorem dX12_isAhead_41 : decode cX12_isAhead 41 = .ok (.getfield 9, 3) := by decide +kernel
theorem dX12_isAhead_44 : decode cX12_isAhead 44 = .ok (.iload_n 2, 1) := by decide +kernel
theorem dX12_isAhead_45 : decode cX12_isAhead 45 = .ok (.iconst 3, 1) := by decide +kernel
theorem dX12_isAhead_46 : decode cX12_isAhead 46 = .ok (.invokestatic 68, 3) := by decide +kernel
theorem dX12_isAhead_49 : decode cX12_isAhead 49 = .ok (.iaload, 1) := by decide +kernel
theorem dX12_isAhead_50 : decode cX12_isAhead 50 = .ok (.isub, 1) := by decide +kernel
theorem dX12_isAhead_51 : decode cX12_isAhead 51 = .ok (.istore_n 3, 1) := by decide +kernel
theorem dX12_isAhead_52 : decode cX12_isAhead 52 = .ok (.iload_n 3, 1) := by decide +kernel
theorem dX12_isAhead_53 : decode cX12_isAhead 53 = .ok (.ifCond .gt 12, 3) := by decide +kernel
theorem dX12_isAhead_56 : decode cX12_isAhead 56 = .ok (.iload_n 3, 1) := by decide +kernel
theorem dX12_isAhead_57 : decode cX12_isAhead 57 = .ok (.ifCond .ne 12, 3) := by decide +kernel
theorem dX12_isAhead_60 : decode cX12_isAhead 60 = .ok (.iload_n 1, 1) := by decide +kernel
theorem dX12_isAhead_61 : decode cX12_isAhead 61 = .ok (.iload_n 2, 1) := by decide +kernel
theorem dX12_isAhead_62 : decode cX12_isAhead 62 = .ok (.if_icmp .ge 7, 3) := by decide +kernel
theorem dX12_isAhead_65 : decode cX12_isAhead 65 = .ok (.iconst 1, 1) := by decide +kernel
theorem dX12_isAhead_66 : decode cX12_isAhead 66 = .ok (.goto 4, 3) := by decide +kernel
theorem dX12_isAhead_69 : decode cX12_isAhead 69 = .ok (.iconst 0, 1) := by decide +kernel
theorem dX12_isAhead_70 : decode cX12_isAhead 70 = .ok (.ireturn, 1) := by decide +kernel
theorem k_X12_isAhead : cardV yX12_isAhead (Cond.code yX12_isAhead cX12_isAhead 4 (some .boolean)) 2 := ⟨⟨qi_X12_isAhead, qv_X12_isAhead⟩, qc_X12_isAhead, qn_X12, by decide +kernel, by decide +kernel, by decide +kernel⟩
set_option maxHeartbeats 4000000 in
set_option maxRecDepth 100000 in
theorem c_X12_isAhead (l : Launch) (D : va_G) (g : Nat → ClassId) (q_this q_s q_before q_saved q_past q_steps q_goes q_line q_text q_orders : Nat) (p1 p2 : Int32) (f_isSaved : Int32) (f_pastMany : Int32) (f_thrown : Int32) (f_reason : Int32) (f_detail : Int32) (f_isRefused : Int32) (f_goesMany : Int32) (f_roundSteps : Int32) (f_lineMany : Int32) (f_length : Int32) (f_at : Int32) (f_isWrong : Int32) (f_errorAt : Int32) (f_orderMany : Int32) (a_s : Nat → Int32) (o : Int32) (h : F_X12_isAhead p1 p2 a_s = some o) : MR l yX12_isAhead (Cond.code yX12_isAhead cX12_isAhead 4 (some .boolean)) { frames := 1, cells := 0, slots := 0, locals := 21 } D g [.ref q_this, .int p1, .int p2] [(q_this, .inr (12, [.ref q_s, .ref q_before, .ref q_saved, .int f_isSaved, .ref q_past, .int f_pastMany, .int f_thrown, .int f_reason, .int f_detail, .int f_isRefused, .ref q_steps, .ref q_goes, .int f_goesMany, .int f_roundSteps, .ref q_line, .int f_lineMany, .ref q_text, .int f_length, .int f_at, .int f_isWrong, .int f_errorAt, .ref q_orders, .int f_orderMany])), (q_s, .inl (g 0, 147, .inl a_s))] (some (.int o)) := by
  refine z_rd_start (by decide) (Nat.le_of_ble_eq_true rfl) ?_
  intro p e s m args below meth c Q X hr hQ
  refine z_lv (lv' := [(0, .ref q_this), (1, .int p1), (2, .int p2)]) rfl ?_
  have H51 : ∀ (t0 : Int32), J_X12_isAhead_51 p1 p2 a_s t0 = some o → Z p l e { frames := 1, cells := 0, slots := 0, locals := 21 } s m args below meth c Q 4 0 0 (IR D [(q_this, .inr (12, [.ref q_s, .ref q_before, .ref q_saved, .int f_isSaved, .ref q_past, .int f_pastMany, .int f_thrown, .int f_reason, .int f_detail, .int f_isRefused, .ref q_steps, .ref q_goes, .int f_goesMany, .int f_roundSteps, .ref q_line, .int f_lineMany, .ref q_text, .int f_length, .int f_at, .int f_isWrong, .int f_errorAt, .ref q_orders, .int f_orderMany])), (q_s, .inl (g 0, 147, .inl a_s))] s) 51 [(1, .int p1), (2, .int p2)] [.int t0] := by
    intro t0 h
    refine z_istore_n X [(3, .int t0), (1, .int p1), (2, .int p2)] dX12_isAhead_51 rfl (by decide) rfl ?_
    refine z_iload_n X 0 dX12_isAhead_52 rfl rfl ?_
    refine z_if_gt X 65 dX12_isAhead_53 (by decide) h (fun _ h => ?_) (fun _ h => ?_)
    · refine z_iconst X (1 : Int32) dX12_isAhead_65 (by decide) ?_
      refine z_goto X 70 dX12_isAhead_66 (by decide) ?_
      exact z_zretR X hQ hr dX12_isAhead_70 rfl h
    · refine z_iload_n X 0 dX12_isAhead_56 rfl rfl ?_
      refine z_if_ne X 69 dX12_isAhead_57 (by decide) h (fun _ h => ?_) (fun _ h => ?_)
      · refine z_iload_n X 1 dX12_isAhead_60 rfl rfl ?_
        refine z_iload_n X 2 dX12_isAhead_61 rfl rfl ?_
        refine z_icmp_ge X 69 dX12_isAhead_62 (by decide) h (fun _ h => ?_) (fun _ h => ?_)
        · refine z_iconst X (0 : Int32) dX12_isAhead_69 (by decide) ?_
          exact z_zretR X hQ hr dX12_isAhead_70 rfl h
        · refine z_iconst X (1 : Int32) dX12_isAhead_65 (by decide) ?_
          refine z_goto X 70 dX12_isAhead_66 (by decide) ?_
          exact z_zretR X hQ hr dX12_isAhead_70 rfl h
      · refine z_iconst X (0 : Int32) dX12_isAhead_69 (by decide) ?_
        exact z_zretR X hQ hr dX12_isAhead_70 rfl h
  refine z_aload_n X 0 dX12_isAhead_0 rfl rfl ?_
  refine z_get (q0 := 0) (k := 0) (ci := 12) X IR_P iw_X12 rfl qf_X12_X12_s (by decide) dX12_isAhead_1 rfl rfl ?_
  refine z_iload_n X 1 dX12_isAhead_4 rfl rfl ?_
  refine z_iconst X (4 : Int32) dX12_isAhead_5 (by decide) ?_
  obtain ⟨o1, e2, h⟩ := bnd_p h
  refine z_rdS (rest := [.ref q_s]) X IR_P k_X12_at (c_X12_at l D g p1 (4 : Int32) o1 e2) ql_X12_X12_at dX12_isAhead_6 [] rfl rfl rfl ⟨Nat.le_of_ble_eq_true rfl, Nat.le_of_ble_eq_true rfl, rfl, rfl, Nat.le_of_ble_eq_true rfl, Nat.le_of_ble_eq_true rfl⟩ (Nat.le_of_ble_eq_true rfl) ?_
  refine z_iald (q0 := 1) X IR_P dX12_isAhead_9 rfl h (fun h => ?_)
  refine z_aload_n X 0 dX12_isAhead_10 rfl rfl ?_
  refine z_get (q0 := 0) (k := 0) (ci := 12) X IR_P iw_X12 rfl qf_X12_X12_s (by decide) dX12_isAhead_11 rfl rfl ?_
  refine z_iload_n X 2 dX12_isAhead_14 rfl rfl ?_
  refine z_iconst X (4 : Int32) dX12_isAhead_15 (by decide) ?_
  obtain ⟨o3, e4, h⟩ := bnd_p h
  refine z_rdS (rest := [.ref q_s, .int (a_s o1.toNatClampNeg)]) X IR_P k_X12_at (c_X12_at l D g p2 (4 : Int32) o3 e4) ql_X12_X12_at dX12_isAhead_16 [] rfl rfl rfl ⟨Nat.le_of_ble_eq_true rfl, Nat.le_of_ble_eq_true rfl, rfl, rfl, Nat.le_of_ble_eq_true rfl, Nat.le_of_ble_eq_true rfl⟩ (Nat.le_of_ble_eq_true rfl) ?_
  refine z_iald (q0 := 1) X IR_P dX12_isAhead_19 rfl h (fun h => ?_)
  refine z_isub X dX12_isAhead_20 ?_
  refine z_istore_n X [(3, .int ((a_s o1.toNatClampNeg) - (a_s o3.toNatClampNeg))), (0, .ref q_this), (1, .int p1), (2, .int p2)] dX12_isAhead_21 rfl (by decide) rfl ?_
  refine z_iload_n X 0 dX12_isAhead_22 rfl rfl ?_
  refine z_if_eq X 30 dX12_isAhead_23 (by decide) h (fun _ h => ?_) (fun _ h => ?_)
  · refine z_aload_n X 1 dX12_isAhead_30 rfl rfl ?_
    refine z_get (q0 := 0) (k := 0) (ci := 12) X IR_P iw_X12 rfl qf_X12_X12_s (by decide) dX12_isAhead_31 rfl rfl ?_
    refine z_iload_n X 2 dX12_isAhead_34 rfl rfl ?_
    refine z_iconst X (3 : Int32) dX12_isAhead_35 (by decide) ?_
    obtain ⟨o5, e6, h⟩ := bnd_p h
    refine z_rdS (rest := [.ref q_s]) X IR_P k_X12_at (c_X12_at l D g p1 (3 : Int32) o5 e6) ql_X12_X12_at dX12_isAhead_36 [] rfl rfl rfl ⟨Nat.le_of_ble_eq_true rfl, Nat.le_of_ble_eq_true rfl, rfl, rfl, Nat.le_of_ble_eq_true rfl, Nat.le_of_ble_eq_true rfl⟩ (Nat.le_of_ble_eq_true rfl) ?_
    refine z_iald (q0 := 1) X IR_P dX12_isAhead_39 rfl h (fun h => ?_)
    refine z_aload_n X 1 dX12_isAhead_40 rfl rfl ?_
    refine z_get (q0 := 0) (k := 0) (ci := 12) X IR_P iw_X12 rfl qf_X12_X12_s (by decide) dX12_isAhead_41 rfl rfl ?_
    refine z_iload_n X 3 dX12_isAhead_44 rfl rfl ?_
    refine z_iconst X (3 : Int32) dX12_isAhead_45 (by decide) ?_
    obtain ⟨o7, e8, h⟩ := bnd_p h
    refine z_rdS (rest := [.ref q_s, .int (a_s o5.toNatClampNeg)]) X IR_P k_X12_at (c_X12_at l D g p2 (3 : Int32) o7 e8) ql_X12_X12_at dX12_isAhead_46 [] rfl rfl rfl ⟨Nat.le_of_ble_eq_true rfl, Nat.le_of_ble_eq_true rfl, rfl, rfl, Nat.le_of_ble_eq_true rfl, Nat.le_of_ble_eq_true rfl⟩ (Nat.le_of_ble_eq_true rfl) ?_
    refine z_iald (q0 := 1) X IR_P dX12_isAhead_49 rfl h (fun h => ?_)
    refine z_isub X dX12_isAhead_50 ?_
    refine z_sub (lv' := [(1, .int p1), (2, .int p2)]) [2, 3] rfl ?_
    exact H51 ((a_s o5.toNatClampNeg) - (a_s o7.toNatClampNeg)) h
  · refine z_iload_n X 0 dX12_isAhead_26 rfl rfl ?_
    refine z_goto X 51 dX12_isAhead_27 (by decide) ?_
    refine z_sub (lv' := [(1, .int p1), (2, .int p2)]) [2, 3] rfl ?_
    exact H51 ((a_s o1.toNatClampNeg) - (a_s o3.toNatClampNeg)) h

def J_X12_ranked_92 (p1 : Int32) (a_s : Nat → Int32) (r21 : Int32 → Int32 → (Int32) → Option (Int32 × Int32)) (t0 : Int32) (x3 : Int32) (f_thrown : Int32) : Option (Int32 × Int32) :=
  r21 t0 (x3 + 1) f_thrown

def J_X12_ranked_72 (p1 : Int32) (a_s : Nat → Int32) (r21 : Int32 → Int32 → (Int32) → Option (Int32 × Int32)) (r44 : Int32 → Int32 → Int32 → Int32 → (Int32) → Option (Int32 × Int32)) (t0 : Int32) (t1 : Int32) (x2 : Int32) (x3 : Int32) (x5 : Int32) (f_thrown : Int32) : Option (Int32 × Int32) :=
  r44 x2 x3 (t1 + t0) (x5 + 1) f_thrown

def L_X12_ranked_44 (p1 : Int32) (a_s : Nat → Int32) (r21 : Int32 → Int32 → (Int32) → Option (Int32 × Int32)) : Nat → Int32 → Int32 → Int32 → Int32 → (Int32) → Option (Int32 × Int32)
  | 0, _, _, _, _, _ => none
  | _n + 1, x2, x3, x4, x5, f_thrown =>
    grd (inb (2 : Int32) 147) (brn ((a_s (2 : Int32).toNatClampNeg) ≤ x5) (brn (x4 = p1) (J_X12_ranked_92 p1 a_s (r21) x3 x3 f_thrown) (J_X12_ranked_92 p1 a_s (r21) x2 x3 f_thrown)) (bnd (F_X12_isAhead x5 x3 a_s) (fun o3 => brn (o3 = 0) (J_X12_ranked_72 p1 a_s (r21) (L_X12_ranked_44 p1 a_s r21 _n) (0 : Int32) x4 x2 x3 x5 f_thrown) (J_X12_ranked_72 p1 a_s (r21) (L_X12_ranked_44 p1 a_s r21 _n) (1 : Int32) x4 x2 x3 x5 f_thrown))))

def L_X12_ranked_21 (p1 : Int32) (a_s : Nat → Int32) : Nat → Int32 → Int32 → (Int32) → Option (Int32 × Int32)
  | 0, _, _, _ => none
  | _n + 1, x2, x3, f_thrown =>
    grd (inb (2 : Int32) 147) (brn ((a_s (2 : Int32).toNatClampNeg) ≤ x3) (some (x2, f_thrown)) (brn (f_thrown = 0) (L_X12_ranked_44 p1 a_s (L_X12_ranked_21 p1 a_s _n) 100 x2 x3 (0 : Int32) (0 : Int32) f_thrown) (some (x2, f_thrown))))

def J_X12_ranked_14 (p1 : Int32) (a_s : Nat → Int32) (t0 : Int32) (f_thrown : Int32) : Option (Int32 × Int32) :=
  L_X12_ranked_21 p1 a_s 100 (0 : Int32) (0 : Int32) t0

def F_X12_ranked (p1 : Int32) (a_s : Nat → Int32) (f_thrown : Int32) : Option (Int32 × Int32) :=
  bnd (F_X12_isHouse p1 a_s) (fun o1 => brn (o1 = 0) (J_X12_ranked_14 p1 a_s (1 : Int32) f_thrown) (J_X12_ranked_14 p1 a_s (0 : Int32) f_thrown))
theorem dX12_ranked_0 : decode cX12_ranked 0 = .ok (.aload_n 0, 1) := by decide +kernel
theorem dX12_ranked_1 : decode cX12_ranked 1 = .ok (.aload_n 0, 1) := by decide +kernel
theorem dX12_ranked_2 : decode cX12_ranked 2 = .ok (.iload_n 1, 1) := by decide +kernel
theorem dX12_ranked_3 : decode cX12_ranked 3 = .ok (.invokevirtual 110, 3) := by decide +kernel
theorem dX12_ranked_6 : decode cX12_ranked 6 = .ok (.ifCond .eq 7, 3) := by decide +kernel
theorem dX12_ranked_9 : decode cX12_ranked 9 = .ok (.iconst 0, 1) := by decide +kernel
theorem dX12_ranked_10 : decode cX12_ranked 10 = .ok (.goto 4, 3) := by decide +kernel
theorem dX12_ranked_13 : decode cX12_ranked 13 = .ok (.iconst 1, 1) := by decide +kernel
theorem dX12_ranked_14 : decode cX12_ranked 14 = .ok (.putfield 42, 3) := by decide +kernel
theorem dX12_ranked_17 : decode cX12_ranked 17 = .ok (.iconst 0, 1) := by decide +kernel
theorem dX12_ranked_18 : decode cX12_ranked 18 = .ok (.istore_n 2, 1) := by decide +kernel
theorem dX12_ranked_19 : decode cX12_ranked 19 = .ok (.iconst 0, 1) := by decide +kernel
theorem dX12_ranked_20 : decode cX12_ranked 20 = .ok (.istore_n 3, 1) := by decide +kernel
theorem dX12_ranked_21 : decode cX12_ranked 21 = .ok (.iload_n 3, 1) := by decide +kernel
theorem dX12_ranked_22 : decode cX12_ranked 22 = .ok (.aload_n 0, 1) := by decide +kernel
theorem dX12_ranked_23 : decode cX12_ranked 23 = .ok (.getfield 9, 3) := by decide +kernel
theorem dX12_ranked_26 : decode cX12_ranked 26 = .ok (.iconst 2, 1) := by decide +kernel
theorem dX12_ranked_27 : decode cX12_ranked 27 = .ok (.iaload, 1) := by decide +kernel
theorem dX12_ranked_28 : decode cX12_ranked 28 = .ok (.if_icmp .ge 71, 3) := by decide +kernel
theorem dX12_ranked_31 : decode cX12_ranked 31 = .ok (.aload_n 0, 1) := by decide +kernel
theorem dX12_ranked_32 : decode cX12_ranked 32 = .ok (.getfield 42, 3) := by decide +kernel
theorem dX12_ranked_35 : decode cX12_ranked 35 = .ok (.ifCond .ne 64, 3) := by decide +kernel
theorem dX12_ranked_38 : decode cX12_ranked 38 = .ok (.iconst 0, 1) := by decide +kernel
theorem dX12_ranked_39 : decode cX12_ranked 39 = .ok (.istore 4, 2) := by decide +kernel
theorem dX12_ranked_41 : decode cX12_ranked 41 = .ok (.iconst 0, 1) := by decide +kernel
theorem dX12_ranked_42 : decode cX12_ranked 42 = .ok (.istore 5, 2) := by decide +kernel
theorem dX12_ranked_44 : decode cX12_ranked 44 = .ok (.iload 5, 2) := by decide +kernel
theorem dX12_ranked_46 : decode cX12_ranked 46 = .ok (.aload_n 0, 1) := by decide +kernel
theorem dX12_ranked_47 : decode cX12_ranked 47 = .ok (.getfield 9, 3) := by decide +kernel
theorem dX12_ranked_50 : decode cX12_ranked 50 = .ok (.iconst 2, 1) := by decide +kernel
theorem dX12_ranked_51 : decode cX12_ranked 51 = .ok (.iaload, 1) := by decide +kernel
theorem dX12_ranked_52 : decode cX12_ranked 52 = .ok (.if_icmp .ge 29, 3) := by decide +kernel
theorem dX12_ranked_55 : decode cX12_ranked 55 = .ok (.iload 4, 2) := by decide +kernel
theorem dX12_ranked_57 : decode cX12_ranked 57 = .ok (.aload_n 0, 1) := by decide +kernel
theorem dX12_ranked_58 : decode cX12_ranked 58 = .ok (.iload 5, 2) := by decide +kernel
theorem dX12_ranked_60 : decode cX12_ranked 60 = .ok (.iload_n 3, 1) := by decide +kernel
theorem dX12_ranked_61 : decode cX12_ranked 61 = .ok (.invokevirtual 205, 3) := by decide +kernel
theorem dX12_ranked_64 : decode cX12_ranked 64 = .ok (.ifCond .eq 7, 3) := by decide +kernel
theorem dX12_ranked_67 : decode cX12_ranked 67 = .ok (.iconst 1, 1) := by decide +kernel
theorem dX12_ranked_68 : decode cX12_ranked 68 = .ok (.goto 4, 3) := by decide +kernel
theorem dX12_ranked_71 : decode cX12_ranked 71 = .ok (.iconst 0, 1) := by decide +kernel
theorem dX12_ranked_72 : decode cX12_ranked 72 = .ok (.iadd, 1) := by decide +kernel
theorem dX12_ranked_73 : decode cX12_ranked 73 = .ok (.istore 4, 2) := by decide +kernel
theorem dX12_ranked_75 : decode cX12_ranked 75 = .ok (.iinc 5 1, 3) := by decide +kernel
theorem dX12_ranked_78 : decode cX12_ranked 78 = .ok (.goto (-34), 3) := by decide +kernel
theorem dX12_ranked_81 : decode cX12_ranked 81 = .ok (.iload 4, 2) := by decide +kernel
theorem dX12_ranked_83 : decode cX12_ranked 83 = .ok (.iload_n 1, 1) := by decide +kernel
theorem dX12_ranked_84 : decode cX12_ranked 84 = .ok (.if_icmp .ne 7, 3) := by decide +kernel
theorem dX12_ranked_87 : decode cX12_ranked 87 = .ok (.iload_n 3, 1) := by decide +kernel
theorem dX12_ranked_88 : decode cX12_ranked 88 = .ok (.goto 4, 3) := by decide +kernel
theorem dX12_ranked_91 : decode cX12_ranked 91 = .ok (.iload_n 2, 1) := by decide +kernel
theorem dX12_ranked_92 : decode cX12_ranked 92 = .ok (.istore_n 2, 1) := by decide +kernel
theorem dX12_ranked_93 : decode cX12_ranked 93 = .ok (.iinc 3 1, 3) := by decide +kernel
theorem dX12_ranked_96 : decode cX12_ranked 96 = .ok (.goto (-75), 3) := by decide +kernel
theorem dX12_ranked_99 : decode cX12_ranked 99 = .ok (.iload_n 2, 1) := by decide +kernel
theorem dX12_ranked_100 : decode cX12_ranked 100 = .ok (.ireturn, 1) := by decide +kernel
theorem k_X12_ranked : cardV yX12_ranked (Cond.code yX12_ranked cX12_ranked 6 (some .int)) 1 := ⟨⟨qi_X12_ranked, qv_X12_ranked⟩, qc_X12_ranked, qn_X12, by decide +kernel, by decide +kernel, by decide +kernel⟩
set_option maxHeartbeats 4000000 in
set_option maxRecDepth 100000 in
theorem c_X12_ranked (l : Launch) (D : va_G) (g : Nat → ClassId) (q_this q_s q_before q_saved q_past q_steps q_goes q_line q_text q_orders : Nat) (p1 : Int32) (f_isSaved : Int32) (f_pastMany : Int32) (f_thrown : Int32) (f_reason : Int32) (f_detail : Int32) (f_isRefused : Int32) (f_goesMany : Int32) (f_roundSteps : Int32) (f_lineMany : Int32) (f_length : Int32) (f_at : Int32) (f_isWrong : Int32) (f_errorAt : Int32) (f_orderMany : Int32) (a_s : Nat → Int32) (o : Int32 × Int32) (h : F_X12_ranked p1 a_s f_thrown = some o) : MW l yX12_ranked (Cond.code yX12_ranked cX12_ranked 6 (some .int)) { frames := 2, cells := 0, slots := 0, locals := 44 } D g [.ref q_this, .int p1] [(q_this, .inr (12, [.ref q_s, .ref q_before, .ref q_saved, .int f_isSaved, .ref q_past, .int f_pastMany, .int f_thrown, .int f_reason, .int f_detail, .int f_isRefused, .ref q_steps, .ref q_goes, .int f_goesMany, .int f_roundSteps, .ref q_line, .int f_lineMany, .ref q_text, .int f_length, .int f_at, .int f_isWrong, .int f_errorAt, .ref q_orders, .int f_orderMany])), (q_s, .inl (g 0, 147, .inl a_s))] (some (.int o.1)) [(q_this, .inr (12, [.ref q_s, .ref q_before, .ref q_saved, .int f_isSaved, .ref q_past, .int f_pastMany, .int o.2, .int f_reason, .int f_detail, .int f_isRefused, .ref q_steps, .ref q_goes, .int f_goesMany, .int f_roundSteps, .ref q_line, .int f_lineMany, .ref q_text, .int f_length, .int f_at, .int f_isWrong, .int f_errorAt, .ref q_orders, .int f_orderMany])), (q_s, .inl (g 0, 147, .inl a_s))] := by
  refine z_wr_start (by decide) (Nat.le_of_ble_eq_true rfl) ?_
  intro p e s m args below meth c Q A X hr hQ hA
  refine z_lv (lv' := [(0, .ref q_this), (1, .int p1)]) rfl ?_
  have H21 : ∀ (n : Nat) (x2 : Int32) (x3 : Int32) (f_thrown : Int32), L_X12_ranked_21 p1 a_s  n x2 x3 f_thrown = some o → Z p l e { frames := 2, cells := 0, slots := 0, locals := 44 } s m args below meth c Q 6 0 0 (IW D A s [(q_this, .inr (12, [.ref q_s, .ref q_before, .ref q_saved, .int f_isSaved, .ref q_past, .int f_pastMany, .int f_thrown, .int f_reason, .int f_detail, .int f_isRefused, .ref q_steps, .ref q_goes, .int f_goesMany, .int f_roundSteps, .ref q_line, .int f_lineMany, .ref q_text, .int f_length, .int f_at, .int f_isWrong, .int f_errorAt, .ref q_orders, .int f_orderMany])), (q_s, .inl (g 0, 147, .inl a_s))]) 21 [(0, .ref q_this), (1, .int p1), (2, .int x2), (3, .int x3)] [] := by
    intro n
    induction n with
    | zero => intro x2 x3 f_thrown h; cases h
    | succ n21 ih21 =>
      intro x2 x3 f_thrown h
      have H92 : ∀ (t0 : Int32) (x3 : Int32) (f_thrown : Int32), J_X12_ranked_92 p1 a_s (L_X12_ranked_21 p1 a_s n21) t0 x3 f_thrown = some o → Z p l e { frames := 2, cells := 0, slots := 0, locals := 44 } s m args below meth c Q 6 0 0 (IW D A s [(q_this, .inr (12, [.ref q_s, .ref q_before, .ref q_saved, .int f_isSaved, .ref q_past, .int f_pastMany, .int f_thrown, .int f_reason, .int f_detail, .int f_isRefused, .ref q_steps, .ref q_goes, .int f_goesMany, .int f_roundSteps, .ref q_line, .int f_lineMany, .ref q_text, .int f_length, .int f_at, .int f_isWrong, .int f_errorAt, .ref q_orders, .int f_orderMany])), (q_s, .inl (g 0, 147, .inl a_s))]) 92 [(0, .ref q_this), (1, .int p1), (3, .int x3)] [.int t0] := by
        intro t0 x3 f_thrown h
        refine z_istore_n X [(2, .int t0), (0, .ref q_this), (1, .int p1), (3, .int x3)] dX12_ranked_92 rfl (by decide) rfl ?_
        refine z_iinc X 3 [(3, .int (x3 + 1)), (2, .int t0), (0, .ref q_this), (1, .int p1)] dX12_ranked_93 rfl rfl (by decide) rfl ?_
        refine z_goto X 21 dX12_ranked_96 (by decide) ?_
        refine z_sub (lv' := [(0, .ref q_this), (1, .int p1), (2, .int t0), (3, .int (x3 + 1))]) [2, 3, 1, 0] rfl ?_
        exact ih21 t0 (x3 + 1) f_thrown h
      have H44 : ∀ (n : Nat) (x2 : Int32) (x3 : Int32) (x4 : Int32) (x5 : Int32) (f_thrown : Int32), L_X12_ranked_44 p1 a_s (L_X12_ranked_21 p1 a_s n21) n x2 x3 x4 x5 f_thrown = some o → Z p l e { frames := 2, cells := 0, slots := 0, locals := 44 } s m args below meth c Q 6 0 0 (IW D A s [(q_this, .inr (12, [.ref q_s, .ref q_before, .ref q_saved, .int f_isSaved, .ref q_past, .int f_pastMany, .int f_thrown, .int f_reason, .int f_detail, .int f_isRefused, .ref q_steps, .ref q_goes, .int f_goesMany, .int f_roundSteps, .ref q_line, .int f_lineMany, .ref q_text, .int f_length, .int f_at, .int f_isWrong, .int f_errorAt, .ref q_orders, .int f_orderMany])), (q_s, .inl (g 0, 147, .inl a_s))]) 44 [(0, .ref q_this), (1, .int p1), (2, .int x2), (3, .int x3), (4, .int x4), (5, .int x5)] [] := by
        intro n
        induction n with
        | zero => intro x2 x3 x4 x5 f_thrown h; cases h
        | succ n44 ih44 =>
          intro x2 x3 x4 x5 f_thrown h
          have H72 : ∀ (t0 : Int32) (t1 : Int32) (x2 : Int32) (x3 : Int32) (x5 : Int32) (f_thrown : Int32), J_X12_ranked_72 p1 a_s (L_X12_ranked_21 p1 a_s n21) (L_X12_ranked_44 p1 a_s (L_X12_ranked_21 p1 a_s n21) n44) t0 t1 x2 x3 x5 f_thrown = some o → Z p l e { frames := 2, cells := 0, slots := 0, locals := 44 } s m args below meth c Q 6 0 0 (IW D A s [(q_this, .inr (12, [.ref q_s, .ref q_before, .ref q_saved, .int f_isSaved, .ref q_past, .int f_pastMany, .int f_thrown, .int f_reason, .int f_detail, .int f_isRefused, .ref q_steps, .ref q_goes, .int f_goesMany, .int f_roundSteps, .ref q_line, .int f_lineMany, .ref q_text, .int f_length, .int f_at, .int f_isWrong, .int f_errorAt, .ref q_orders, .int f_orderMany])), (q_s, .inl (g 0, 147, .inl a_s))]) 72 [(0, .ref q_this), (1, .int p1), (2, .int x2), (3, .int x3), (5, .int x5)] [.int t0, .int t1] := by
            intro t0 t1 x2 x3 x5 f_thrown h
            refine z_iadd X dX12_ranked_72 ?_
            refine z_istore X [(4, .int (t1 + t0)), (0, .ref q_this), (1, .int p1), (2, .int x2), (3, .int x3), (5, .int x5)] dX12_ranked_73 (by decide) rfl ?_
            refine z_iinc X 5 [(5, .int (x5 + 1)), (4, .int (t1 + t0)), (0, .ref q_this), (1, .int p1), (2, .int x2), (3, .int x3)] dX12_ranked_75 rfl rfl (by decide) rfl ?_
            refine z_goto X 44 dX12_ranked_78 (by decide) ?_
            refine z_sub (lv' := [(0, .ref q_this), (1, .int p1), (2, .int x2), (3, .int x3), (4, .int (t1 + t0)), (5, .int (x5 + 1))]) [2, 3, 4, 5, 1, 0] rfl ?_
            exact ih44 x2 x3 (t1 + t0) (x5 + 1) f_thrown h
          refine z_iload X 5 dX12_ranked_44 rfl ?_
          refine z_aload_n X 0 dX12_ranked_46 rfl rfl ?_
          refine z_get (q0 := 0) (k := 0) (ci := 12) X IW_P iw_X12 rfl qf_X12_X12_s (by decide) dX12_ranked_47 rfl rfl ?_
          refine z_iconst X (2 : Int32) dX12_ranked_50 (by decide) ?_
          refine z_iald (q0 := 1) X IW_P dX12_ranked_51 rfl h (fun h => ?_)
          refine z_icmp_ge X 81 dX12_ranked_52 (by decide) h (fun _ h => ?_) (fun _ h => ?_)
          · refine z_iload X 4 dX12_ranked_81 rfl ?_
            refine z_iload_n X 1 dX12_ranked_83 rfl rfl ?_
            refine z_icmp_ne X 91 dX12_ranked_84 (by decide) h (fun _ h => ?_) (fun _ h => ?_)
            · refine z_iload_n X 3 dX12_ranked_87 rfl rfl ?_
              refine z_goto X 92 dX12_ranked_88 (by decide) ?_
              refine z_sub (lv' := [(0, .ref q_this), (1, .int p1), (3, .int x3)]) [0, 1, 3] rfl ?_
              exact H92 x3 x3 f_thrown h
            · refine z_iload_n X 2 dX12_ranked_91 rfl rfl ?_
              refine z_sub (lv' := [(0, .ref q_this), (1, .int p1), (3, .int x3)]) [0, 1, 3] rfl ?_
              exact H92 x2 x3 f_thrown h
          · refine z_iload X 4 dX12_ranked_55 rfl ?_
            refine z_aload_n X 0 dX12_ranked_57 rfl rfl ?_
            refine z_iload X 5 dX12_ranked_58 rfl ?_
            refine z_iload_n X 3 dX12_ranked_60 rfl rfl ?_
            obtain ⟨o3, e4, h⟩ := bnd_p h
            refine z_rdV (rest := [.int x4]) (q0 := 0) (ci := 12) X IW_P k_X12_isAhead (c_X12_isAhead l D g q_this q_s q_before q_saved q_past q_steps q_goes q_line q_text q_orders x5 x3 f_isSaved f_pastMany f_thrown f_reason f_detail f_isRefused f_goesMany f_roundSteps f_lineMany f_length f_at f_isWrong f_errorAt f_orderMany a_s o3 e4) ql_X12_X12_isAhead dX12_ranked_61 [0, 1] rfl rfl rfl rfl rfl rfl ⟨Nat.le_of_ble_eq_true rfl, Nat.le_of_ble_eq_true rfl, rfl, rfl, Nat.le_of_ble_eq_true rfl, Nat.le_of_ble_eq_true rfl⟩ (Nat.le_of_ble_eq_true rfl) ?_
            refine z_if_eq X 71 dX12_ranked_64 (by decide) h (fun _ h => ?_) (fun _ h => ?_)
            · refine z_iconst X (0 : Int32) dX12_ranked_71 (by decide) ?_
              refine z_sub (lv' := [(0, .ref q_this), (1, .int p1), (2, .int x2), (3, .int x3), (5, .int x5)]) [0, 1, 2, 3, 5] rfl ?_
              exact H72 (0 : Int32) x4 x2 x3 x5 f_thrown h
            · refine z_iconst X (1 : Int32) dX12_ranked_67 (by decide) ?_
              refine z_goto X 72 dX12_ranked_68 (by decide) ?_
              refine z_sub (lv' := [(0, .ref q_this), (1, .int p1), (2, .int x2), (3, .int x3), (5, .int x5)]) [0, 1, 2, 3, 5] rfl ?_
              exact H72 (1 : Int32) x4 x2 x3 x5 f_thrown h
      refine z_iload_n X 3 dX12_ranked_21 rfl rfl ?_
      refine z_aload_n X 0 dX12_ranked_22 rfl rfl ?_
      refine z_get (q0 := 0) (k := 0) (ci := 12) X IW_P iw_X12 rfl qf_X12_X12_s (by decide) dX12_ranked_23 rfl rfl ?_
      refine z_iconst X (2 : Int32) dX12_ranked_26 (by decide) ?_
      refine z_iald (q0 := 1) X IW_P dX12_ranked_27 rfl h (fun h => ?_)
      refine z_icmp_ge X 99 dX12_ranked_28 (by decide) h (fun _ h => ?_) (fun _ h => ?_)
      · refine z_iload_n X 2 dX12_ranked_99 rfl rfl ?_
        cases h
        exact z_iretW X hQ hA hr dX12_ranked_100
      · refine z_aload_n X 0 dX12_ranked_31 rfl rfl ?_
        refine z_get (q0 := 0) (k := 6) (ci := 12) X IW_P iw_X12 rfl qf_X12_X12_thrown (by decide) dX12_ranked_32 rfl rfl ?_
        refine z_if_ne X 99 dX12_ranked_35 (by decide) h (fun _ h => ?_) (fun _ h => ?_)
        · refine z_iconst X (0 : Int32) dX12_ranked_38 (by decide) ?_
          refine z_istore X [(4, .int (0 : Int32)), (0, .ref q_this), (1, .int p1), (2, .int x2), (3, .int x3)] dX12_ranked_39 (by decide) rfl ?_
          refine z_iconst X (0 : Int32) dX12_ranked_41 (by decide) ?_
          refine z_istore X [(5, .int (0 : Int32)), (4, .int (0 : Int32)), (0, .ref q_this), (1, .int p1), (2, .int x2), (3, .int x3)] dX12_ranked_42 (by decide) rfl ?_
          refine z_sub (lv' := [(0, .ref q_this), (1, .int p1), (2, .int x2), (3, .int x3), (4, .int (0 : Int32)), (5, .int (0 : Int32))]) [2, 3, 4, 5, 1, 0] rfl ?_
          exact H44 100 x2 x3 (0 : Int32) (0 : Int32) f_thrown h
        · refine z_iload_n X 2 dX12_ranked_99 rfl rfl ?_
          cases h
          exact z_iretW X hQ hA hr dX12_ranked_100
  have H14 : ∀ (t0 : Int32) (f_thrown : Int32), J_X12_ranked_14 p1 a_s t0 f_thrown = some o → Z p l e { frames := 2, cells := 0, slots := 0, locals := 44 } s m args below meth c Q 6 0 0 (IW D A s [(q_this, .inr (12, [.ref q_s, .ref q_before, .ref q_saved, .int f_isSaved, .ref q_past, .int f_pastMany, .int f_thrown, .int f_reason, .int f_detail, .int f_isRefused, .ref q_steps, .ref q_goes, .int f_goesMany, .int f_roundSteps, .ref q_line, .int f_lineMany, .ref q_text, .int f_length, .int f_at, .int f_isWrong, .int f_errorAt, .ref q_orders, .int f_orderMany])), (q_s, .inl (g 0, 147, .inl a_s))]) 14 [(0, .ref q_this), (1, .int p1)] [.int t0, .ref q_this] := by
    intro t0 f_thrown h
    refine z_put (q0 := 0) (k := 6) (ci := 12) (ws' := [(q_this, .inr (12, [.ref q_s, .ref q_before, .ref q_saved, .int f_isSaved, .ref q_past, .int f_pastMany, .int t0, .int f_reason, .int f_detail, .int f_isRefused, .ref q_steps, .ref q_goes, .int f_goesMany, .int f_roundSteps, .ref q_line, .int f_lineMany, .ref q_text, .int f_length, .int f_at, .int f_isWrong, .int f_errorAt, .ref q_orders, .int f_orderMany])), (q_s, .inl (g 0, 147, .inl a_s))]) X iw_X12 tyX12_ok nmX12 rfl qf_X12_X12_thrown (by decide) rfl rfl dX12_ranked_14 rfl rfl rfl (Nat.le_of_ble_eq_true rfl) rfl ?_
    refine z_iconst X (0 : Int32) dX12_ranked_17 (by decide) ?_
    refine z_istore_n X [(2, .int (0 : Int32)), (0, .ref q_this), (1, .int p1)] dX12_ranked_18 rfl (by decide) rfl ?_
    refine z_iconst X (0 : Int32) dX12_ranked_19 (by decide) ?_
    refine z_istore_n X [(3, .int (0 : Int32)), (2, .int (0 : Int32)), (0, .ref q_this), (1, .int p1)] dX12_ranked_20 rfl (by decide) rfl ?_
    refine z_sub (lv' := [(0, .ref q_this), (1, .int p1), (2, .int (0 : Int32)), (3, .int (0 : Int32))]) [2, 3, 1, 0] rfl ?_
    exact H21 100 (0 : Int32) (0 : Int32) t0 h
  refine z_aload_n X 0 dX12_ranked_0 rfl rfl ?_
  refine z_aload_n X 0 dX12_ranked_1 rfl rfl ?_
  refine z_iload_n X 1 dX12_ranked_2 rfl rfl ?_
  obtain ⟨o1, e2, h⟩ := bnd_p h
  refine z_rdV (rest := [.ref q_this]) (q0 := 0) (ci := 12) X IW_P k_X12_isHouse (c_X12_isHouse l D g q_this q_s q_before q_saved q_past q_steps q_goes q_line q_text q_orders p1 f_isSaved f_pastMany f_thrown f_reason f_detail f_isRefused f_goesMany f_roundSteps f_lineMany f_length f_at f_isWrong f_errorAt f_orderMany a_s o1 e2) ql_X12_X12_isHouse dX12_ranked_3 [0, 1] rfl rfl rfl rfl rfl rfl ⟨Nat.le_of_ble_eq_true rfl, Nat.le_of_ble_eq_true rfl, rfl, rfl, Nat.le_of_ble_eq_true rfl, Nat.le_of_ble_eq_true rfl⟩ (Nat.le_of_ble_eq_true rfl) ?_
  refine z_if_eq X 13 dX12_ranked_6 (by decide) h (fun _ h => ?_) (fun _ h => ?_)
  · refine z_iconst X (1 : Int32) dX12_ranked_13 (by decide) ?_
    exact H14 (1 : Int32) f_thrown h
  · refine z_iconst X (0 : Int32) dX12_ranked_9 (by decide) ?_
    refine z_goto X 14 dX12_ranked_10 (by decide) ?_
    exact H14 (0 : Int32) f_thrown h

def F_X12_says (p1 : Int32) (f_lineMany : Int32) (a_line : Nat → Int32) : Option (Int32 × (Nat → Int32)) :=
  grd (inb f_lineMany 40) (some ((f_lineMany + (1 : Int32)), (upd a_line f_lineMany.toNatClampNeg (vp_nar .char p1))))
theorem dX12_says_0 : decode cX12_says 0 = .ok (.aload_n 0, 1) := by decide +kernel
theorem dX12_says_1 : decode cX12_says 1 = .ok (.getfield 28, 3) := by decide +kernel
theorem dX12_says_4 : decode cX12_says 4 = .ok (.aload_n 0, 1) := by decide +kernel
theorem dX12_says_5 : decode cX12_says 5 = .ok (.getfield 208, 3) := by decide +kernel
theorem dX12_says_8 : decode cX12_says 8 = .ok (.iload_n 1, 1) := by decide +kernel
theorem dX12_says_9 : decode cX12_says 9 = .ok (.castore, 1) := by decide +kernel
theorem dX12_says_10 : decode cX12_says 10 = .ok (.aload_n 0, 1) := by decide +kernel
theorem dX12_says_11 : decode cX12_says 11 = .ok (.dup, 1) := by decide +kernel
theorem dX12_says_12 : decode cX12_says 12 = .ok (.getfield 208, 3) := by decide +kernel
theorem dX12_says_15 : decode cX12_says 15 = .ok (.iconst 1, 1) := by decide +kernel
theorem dX12_says_16 : decode cX12_says 16 = .ok (.iadd, 1) := by decide +kernel
theorem dX12_says_17 : decode cX12_says 17 = .ok (.putfield 208, 3) := by decide +kernel
theorem dX12_says_20 : decode cX12_says 20 = .ok (.return_, 1) := by decide +kernel
theorem k_X12_says : cardV yX12_says (Cond.code yX12_says cX12_says 2 none) 1 := ⟨⟨qi_X12_says, qv_X12_says⟩, qc_X12_says, qn_X12, by decide +kernel, by decide +kernel, by decide +kernel⟩
set_option maxHeartbeats 4000000 in
set_option maxRecDepth 100000 in
theorem c_X12_says (l : Launch) (D : va_G) (g : Nat → ClassId) (q_this q_s q_before q_saved q_past q_steps q_goes q_line q_text q_orders : Nat) (p1 : Int32) (f_isSaved : Int32) (f_pastMany : Int32) (f_thrown : Int32) (f_reason : Int32) (f_detail : Int32) (f_isRefused : Int32) (f_goesMany : Int32) (f_roundSteps : Int32) (f_lineMany : Int32) (f_length : Int32) (f_at : Int32) (f_isWrong : Int32) (f_errorAt : Int32) (f_orderMany : Int32) (a_line : Nat → Int32) (o : Int32 × (Nat → Int32)) (h : F_X12_says p1 f_lineMany a_line = some o) : MW l yX12_says (Cond.code yX12_says cX12_says 2 none) { frames := 0, cells := 0, slots := 0, locals := 0 } D g [.ref q_this, .int p1] [(q_this, .inr (12, [.ref q_s, .ref q_before, .ref q_saved, .int f_isSaved, .ref q_past, .int f_pastMany, .int f_thrown, .int f_reason, .int f_detail, .int f_isRefused, .ref q_steps, .ref q_goes, .int f_goesMany, .int f_roundSteps, .ref q_line, .int f_lineMany, .ref q_text, .int f_length, .int f_at, .int f_isWrong, .int f_errorAt, .ref q_orders, .int f_orderMany])), (q_line, .inl (g 1, 40, .inl a_line))] none [(q_this, .inr (12, [.ref q_s, .ref q_before, .ref q_saved, .int f_isSaved, .ref q_past, .int f_pastMany, .int f_thrown, .int f_reason, .int f_detail, .int f_isRefused, .ref q_steps, .ref q_goes, .int f_goesMany, .int f_roundSteps, .ref q_line, .int o.1, .ref q_text, .int f_length, .int f_at, .int f_isWrong, .int f_errorAt, .ref q_orders, .int f_orderMany])), (q_line, .inl (g 1, 40, .inl o.2))] := by
  refine z_wr_start (by decide) (Nat.le_of_ble_eq_true rfl) ?_
  intro p e s m args below meth c Q A X hr hQ hA
  refine z_lv (lv' := [(0, .ref q_this), (1, .int p1)]) rfl ?_
  refine z_aload_n X 0 dX12_says_0 rfl rfl ?_
  refine z_get (q0 := 0) (k := 14) (ci := 12) X IW_P iw_X12 rfl qf_X12_X12_line (by decide) dX12_says_1 rfl rfl ?_
  refine z_aload_n X 0 dX12_says_4 rfl rfl ?_
  refine z_get (q0 := 0) (k := 15) (ci := 12) X IW_P iw_X12 rfl qf_X12_X12_lineMany (by decide) dX12_says_5 rfl rfl ?_
  refine z_iload_n X 1 dX12_says_8 rfl rfl ?_
  refine z_cast (q0 := 1) (ws' := [(q_this, .inr (12, [.ref q_s, .ref q_before, .ref q_saved, .int f_isSaved, .ref q_past, .int f_pastMany, .int f_thrown, .int f_reason, .int f_detail, .int f_isRefused, .ref q_steps, .ref q_goes, .int f_goesMany, .int f_roundSteps, .ref q_line, .int f_lineMany, .ref q_text, .int f_length, .int f_at, .int f_isWrong, .int f_errorAt, .ref q_orders, .int f_orderMany])), (q_line, .inl (g 1, 40, .inl (upd a_line f_lineMany.toNatClampNeg (vp_nar .char p1))))]) X dX12_says_9 rfl h rfl (fun h => ?_)
  refine z_aload_n X 0 dX12_says_10 rfl rfl ?_
  refine z_dup X dX12_says_11 rfl ?_
  refine z_get (q0 := 0) (k := 15) (ci := 12) X IW_P iw_X12 rfl qf_X12_X12_lineMany (by decide) dX12_says_12 rfl rfl ?_
  refine z_iconst X (1 : Int32) dX12_says_15 (by decide) ?_
  refine z_iadd X dX12_says_16 ?_
  refine z_put (q0 := 0) (k := 15) (ci := 12) (ws' := [(q_this, .inr (12, [.ref q_s, .ref q_before, .ref q_saved, .int f_isSaved, .ref q_past, .int f_pastMany, .int f_thrown, .int f_reason, .int f_detail, .int f_isRefused, .ref q_steps, .ref q_goes, .int f_goesMany, .int f_roundSteps, .ref q_line, .int (f_lineMany + (1 : Int32)), .ref q_text, .int f_length, .int f_at, .int f_isWrong, .int f_errorAt, .ref q_orders, .int f_orderMany])), (q_line, .inl (g 1, 40, .inl (upd a_line f_lineMany.toNatClampNeg (vp_nar .char p1))))]) X iw_X12 tyX12_ok nmX12 rfl qf_X12_X12_lineMany (by decide) rfl rfl dX12_says_17 rfl rfl rfl (Nat.le_of_ble_eq_true rfl) rfl ?_
  cases h
  exact z_vretW X hQ hA hr dX12_says_20

def F_X12_signOf (p1 : Int32) (a_s : Nat → Int32) : Option (Int32) :=
  bnd (F_X12_houseOn p1 a_s) (fun o1 => brn (o1 < 0) (bnd (F_X12_isBlocked p1 a_s) (fun o3 => brn (o3 = 0) (bnd (F_X12_postOn p1 a_s) (fun o5 => brn (o5 < 0) (bnd (F_X12_hallOn p1 a_s) (fun o7 => brn (o7 < 0) (grd (vp_nar .char (46 : Int32) = (46 : Int32)) (some ((46 : Int32)))) (grd (vp_nar .char (95 : Int32) = (95 : Int32)) (some ((95 : Int32)))))) (grd (vp_nar .char (111 : Int32) = (111 : Int32)) (some ((111 : Int32)))))) (grd (vp_nar .char (35 : Int32) = (35 : Int32)) (some ((35 : Int32)))))) (bnd (F_X12_houseOn p1 a_s) (fun o13 => grd (vp_nar .char ((((48 : Int32) + o13).toUInt32 % 65536).toInt32) = ((((48 : Int32) + o13).toUInt32 % 65536).toInt32)) (some ((((48 : Int32) + o13).toUInt32 % 65536).toInt32)))))
theorem dX12_signOf_0 : decode cX12_signOf 0 = .ok (.aload_n 0, 1) := by decide +kernel
theorem dX12_signOf_1 : decode cX12_signOf 1 = .ok (.iload_n 1, 1) := by decide +kernel
theorem dX12_signOf_2 : decode cX12_signOf 2 = .ok (.invokevirtual 98, 3) := by decide +kernel
theorem dX12_signOf_5 : decode cX12_signOf 5 = .ok (.ifCond .lt 13, 3) := by decide +kernel
theorem dX12_signOf_8 : decode cX12_signOf 8 = .ok (.bipush 48, 2) := by decide +kernel
theorem dX12_signOf_10 : decode cX12_signOf 10 = .ok (.aload_n 0, 1) := by decide +kernel
theorem dX12_signOf_11 : decode cX12_signOf 11 = .ok (.iload_n 1, 1) := by decide +kernel
theorem dX12_signOf_12 : decode cX12_signOf 12 = .ok (.invokevirtual 98, 3) := by decide +kernel
theorem dX12_signOf_15 : decode cX12_signOf 15 = .ok (.iadd, 1) := by decide +kernel
theorem dX12_signOf_16 : decode cX12_signOf 16 = .ok (.i2c, 1) := by decide +kernel
theorem dX12_signOf_17 : decode cX12_signOf 17 = .ok (.ireturn, 1) := by decide +kernel
theorem dX12_signOf_18 : decode cX12_signOf 18 = .ok (.aload_n 0, 1) := by decide +kernel
theorem dX12_signOf_19 : decode cX12_signOf 19 = .ok (.iload_n 1, 1) := by decide +kernel
theorem dX12_signOf_20 : decode cX12_signOf 20 = .ok (.invokevirtual 91, 3) := by decide +kernel
theorem dX12_signOf_23 : decode cX12_signOf 23 = .ok (.ifCond .eq 8, 3) := by decide +kernel
theorem dX12_signOf_26 : decode cX12_signOf 26 = .ok (.bipush 35, 2) := by decide +kernel
theorem dX12_signOf_28 : decode cX12_signOf 28 = .ok (.goto 31, 3) := by decide +kernel
theorem dX12_signOf_31 : decode cX12_signOf 31 = .ok (.aload_n 0, 1) := by decide +kernel
theorem dX12_signOf_32 : decode cX12_signOf 32 = .ok (.iload_n 1, 1) := by decide +kernel
theorem dX12_signOf_33 : decode cX12_signOf 33 = .ok (.invokevirtual 170, 3) := by decide +kernel
theorem dX12_signOf_36 : decode cX12_signOf 36 = .ok (.ifCond .lt 8, 3) := by decide +kernel
theorem dX12_signOf_39 : decode cX12_signOf 39 = .ok (.bipush 111, 2) := by decide +kernel
theorem dX12_signOf_41 : decode cX12_signOf 41 = .ok (.goto 18, 3) := by decide +kernel
theorem dX12_signOf_44 : decode cX12_signOf 44 = .ok (.aload_n 0, 1) := by decide +kernel
theorem dX12_signOf_45 : decode cX12_signOf 45 = .ok (.iload_n 1, 1) := by decide +kernel
theorem dX12_signOf_46 : decode cX12_signOf 46 = .ok (.invokevirtual 119, 3) := by decide +kernel
theorem dX12_signOf_49 : decode cX12_signOf 49 = .ok (.ifCond .lt 8, 3) := by decide +kernel
theorem dX12_signOf_52 : decode cX12_signOf 52 = .ok (.bipush 95, 2) := by decide +kernel
theorem dX12_signOf_54 : decode cX12_signOf 54 = .ok (.goto 5, 3) := by decide +kernel
theorem dX12_signOf_57 : decode cX12_signOf 57 = .ok (.bipush 46, 2) := by decide +kernel
theorem dX12_signOf_59 : decode cX12_signOf 59 = .ok (.ireturn, 1) := by decide +kernel
theorem k_X12_signOf : cardV yX12_signOf (Cond.code yX12_signOf cX12_signOf 2 (some .char)) 1 := ⟨⟨qi_X12_signOf, qv_X12_signOf⟩, qc_X12_signOf, qn_X12, by decide +kernel, by decide +kernel, by decide +kernel⟩
set_option maxHeartbeats 4000000 in
set_option maxRecDepth 100000 in
theorem c_X12_signOf (l : Launch) (D : va_G) (g : Nat → ClassId) (q_this q_s q_before q_saved q_past q_steps q_goes q_line q_text q_orders : Nat) (p1 : Int32) (f_isSaved : Int32) (f_pastMany : Int32) (f_thrown : Int32) (f_reason : Int32) (f_detail : Int32) (f_isRefused : Int32) (f_goesMany : Int32) (f_roundSteps : Int32) (f_lineMany : Int32) (f_length : Int32) (f_at : Int32) (f_isWrong : Int32) (f_errorAt : Int32) (f_orderMany : Int32) (a_s : Nat → Int32) (o : Int32) (h : F_X12_signOf p1 a_s = some o) : MR l yX12_signOf (Cond.code yX12_signOf cX12_signOf 2 (some .char)) { frames := 3, cells := 0, slots := 0, locals := 65 } D g [.ref q_this, .int p1] [(q_this, .inr (12, [.ref q_s, .ref q_before, .ref q_saved, .int f_isSaved, .ref q_past, .int f_pastMany, .int f_thrown, .int f_reason, .int f_detail, .int f_isRefused, .ref q_steps, .ref q_goes, .int f_goesMany, .int f_roundSteps, .ref q_line, .int f_lineMany, .ref q_text, .int f_length, .int f_at, .int f_isWrong, .int f_errorAt, .ref q_orders, .int f_orderMany])), (q_s, .inl (g 0, 147, .inl a_s))] (some (.int o)) := by
  refine z_rd_start (by decide) (Nat.le_of_ble_eq_true rfl) ?_
  intro p e s m args below meth c Q X hr hQ
  refine z_lv (lv' := [(0, .ref q_this), (1, .int p1)]) rfl ?_
  refine z_aload_n X 0 dX12_signOf_0 rfl rfl ?_
  refine z_iload_n X 1 dX12_signOf_1 rfl rfl ?_
  obtain ⟨o1, e2, h⟩ := bnd_p h
  refine z_rdV (rest := []) (q0 := 0) (ci := 12) X IR_P k_X12_houseOn (c_X12_houseOn l D g q_this q_s q_before q_saved q_past q_steps q_goes q_line q_text q_orders p1 f_isSaved f_pastMany f_thrown f_reason f_detail f_isRefused f_goesMany f_roundSteps f_lineMany f_length f_at f_isWrong f_errorAt f_orderMany a_s o1 e2) ql_X12_X12_houseOn dX12_signOf_2 [0, 1] rfl rfl rfl rfl rfl rfl ⟨Nat.le_of_ble_eq_true rfl, Nat.le_of_ble_eq_true rfl, rfl, rfl, Nat.le_of_ble_eq_true rfl, Nat.le_of_ble_eq_true rfl⟩ (Nat.le_of_ble_eq_true rfl) ?_
  refine z_if_lt X 18 dX12_signOf_5 (by decide) h (fun _ h => ?_) (fun _ h => ?_)
  · refine z_aload_n X 0 dX12_signOf_18 rfl rfl ?_
    refine z_iload_n X 1 dX12_signOf_19 rfl rfl ?_
    obtain ⟨o3, e4, h⟩ := bnd_p h
    refine z_rdV (rest := []) (q0 := 0) (ci := 12) X IR_P k_X12_isBlocked (c_X12_isBlocked l D g q_this q_s q_before q_saved q_past q_steps q_goes q_line q_text q_orders p1 f_isSaved f_pastMany f_thrown f_reason f_detail f_isRefused f_goesMany f_roundSteps f_lineMany f_length f_at f_isWrong f_errorAt f_orderMany a_s o3 e4) ql_X12_X12_isBlocked dX12_signOf_20 [0, 1] rfl rfl rfl rfl rfl rfl ⟨Nat.le_of_ble_eq_true rfl, Nat.le_of_ble_eq_true rfl, rfl, rfl, Nat.le_of_ble_eq_true rfl, Nat.le_of_ble_eq_true rfl⟩ (Nat.le_of_ble_eq_true rfl) ?_
    refine z_if_eq X 31 dX12_signOf_23 (by decide) h (fun _ h => ?_) (fun _ h => ?_)
    · refine z_aload_n X 0 dX12_signOf_31 rfl rfl ?_
      refine z_iload_n X 1 dX12_signOf_32 rfl rfl ?_
      obtain ⟨o5, e6, h⟩ := bnd_p h
      refine z_rdV (rest := []) (q0 := 0) (ci := 12) X IR_P k_X12_postOn (c_X12_postOn l D g q_this q_s q_before q_saved q_past q_steps q_goes q_line q_text q_orders p1 f_isSaved f_pastMany f_thrown f_reason f_detail f_isRefused f_goesMany f_roundSteps f_lineMany f_length f_at f_isWrong f_errorAt f_orderMany a_s o5 e6) ql_X12_X12_postOn dX12_signOf_33 [0, 1] rfl rfl rfl rfl rfl rfl ⟨Nat.le_of_ble_eq_true rfl, Nat.le_of_ble_eq_true rfl, rfl, rfl, Nat.le_of_ble_eq_true rfl, Nat.le_of_ble_eq_true rfl⟩ (Nat.le_of_ble_eq_true rfl) ?_
      refine z_if_lt X 44 dX12_signOf_36 (by decide) h (fun _ h => ?_) (fun _ h => ?_)
      · refine z_aload_n X 0 dX12_signOf_44 rfl rfl ?_
        refine z_iload_n X 1 dX12_signOf_45 rfl rfl ?_
        obtain ⟨o7, e8, h⟩ := bnd_p h
        refine z_rdV (rest := []) (q0 := 0) (ci := 12) X IR_P k_X12_hallOn (c_X12_hallOn l D g q_this q_s q_before q_saved q_past q_steps q_goes q_line q_text q_orders p1 f_isSaved f_pastMany f_thrown f_reason f_detail f_isRefused f_goesMany f_roundSteps f_lineMany f_length f_at f_isWrong f_errorAt f_orderMany a_s o7 e8) ql_X12_X12_hallOn dX12_signOf_46 [0, 1] rfl rfl rfl rfl rfl rfl ⟨Nat.le_of_ble_eq_true rfl, Nat.le_of_ble_eq_true rfl, rfl, rfl, Nat.le_of_ble_eq_true rfl, Nat.le_of_ble_eq_true rfl⟩ (Nat.le_of_ble_eq_true rfl) ?_
        refine z_if_lt X 57 dX12_signOf_49 (by decide) h (fun _ h => ?_) (fun _ h => ?_)
        · refine z_bipush X (46 : Int32) dX12_signOf_57 (by decide) ?_
          obtain ⟨e9, h⟩ := grd_p h
          exact z_zretR X hQ hr dX12_signOf_59 (nar_char e9) h
        · refine z_bipush X (95 : Int32) dX12_signOf_52 (by decide) ?_
          refine z_goto X 59 dX12_signOf_54 (by decide) ?_
          obtain ⟨e10, h⟩ := grd_p h
          exact z_zretR X hQ hr dX12_signOf_59 (nar_char e10) h
      · refine z_bipush X (111 : Int32) dX12_signOf_39 (by decide) ?_
        refine z_goto X 59 dX12_signOf_41 (by decide) ?_
        obtain ⟨e11, h⟩ := grd_p h
        exact z_zretR X hQ hr dX12_signOf_59 (nar_char e11) h
    · refine z_bipush X (35 : Int32) dX12_signOf_26 (by decide) ?_
      refine z_goto X 59 dX12_signOf_28 (by decide) ?_
      obtain ⟨e12, h⟩ := grd_p h
      exact z_zretR X hQ hr dX12_signOf_59 (nar_char e12) h
  · refine z_bipush X (48 : Int32) dX12_signOf_8 (by decide) ?_
    refine z_aload_n X 0 dX12_signOf_10 rfl rfl ?_
    refine z_iload_n X 1 dX12_signOf_11 rfl rfl ?_
    obtain ⟨o13, e14, h⟩ := bnd_p h
    refine z_rdV (rest := [.int (48 : Int32)]) (q0 := 0) (ci := 12) X IR_P k_X12_houseOn (c_X12_houseOn l D g q_this q_s q_before q_saved q_past q_steps q_goes q_line q_text q_orders p1 f_isSaved f_pastMany f_thrown f_reason f_detail f_isRefused f_goesMany f_roundSteps f_lineMany f_length f_at f_isWrong f_errorAt f_orderMany a_s o13 e14) ql_X12_X12_houseOn dX12_signOf_12 [0, 1] rfl rfl rfl rfl rfl rfl ⟨Nat.le_of_ble_eq_true rfl, Nat.le_of_ble_eq_true rfl, rfl, rfl, Nat.le_of_ble_eq_true rfl, Nat.le_of_ble_eq_true rfl⟩ (Nat.le_of_ble_eq_true rfl) ?_
    refine z_iadd X dX12_signOf_15 ?_
    refine z_i2c X dX12_signOf_16 ?_
    obtain ⟨e15, h⟩ := grd_p h
    exact z_zretR X hQ hr dX12_signOf_17 (nar_char e15) h

def L_X12_line_35 (p1 : Int32) (a_s : Nat → Int32) : Nat → Int32 → (Int32) → (Int32) → (Nat → Int32) → Option (Int32 × Int32 × Int32 × (Nat → Int32))
  | 0, _, _, _, _ => none
  | _n + 1, x2, f_thrown, f_lineMany, a_line =>
    brn ((8 : Int32) ≤ x2) (some (f_lineMany, f_thrown, f_lineMany, a_line)) (bnd (F_X12_signOf (((8 : Int32) * p1) + x2) a_s) (fun o3 => bnd (F_X12_says o3 f_lineMany a_line) (fun o5 => L_X12_line_35 p1 a_s _n (x2 + 1) f_thrown o5.1 o5.2)))

def J_X12_line_16 (p1 : Int32) (a_s : Nat → Int32) (t0 : Int32) (f_thrown : Int32) (f_lineMany : Int32) (a_line : Nat → Int32) : Option (Int32 × Int32 × Int32 × (Nat → Int32)) :=
  brn (t0 ≤ 0) (L_X12_line_35 p1 a_s 100 (0 : Int32) t0 (0 : Int32) a_line) (some ((0 : Int32), t0, f_lineMany, a_line))

def F_X12_line (p1 : Int32) (a_s : Nat → Int32) (f_thrown : Int32) (f_lineMany : Int32) (a_line : Nat → Int32) : Option (Int32 × Int32 × Int32 × (Nat → Int32)) :=
  bnd (F_X12_in p1 (0 : Int32) (7 : Int32)) (fun o1 => brn (o1 = 0) (J_X12_line_16 p1 a_s (1 : Int32) f_thrown f_lineMany a_line) (J_X12_line_16 p1 a_s (0 : Int32) f_thrown f_lineMany a_line))
theorem dX12_line_0 : decode cX12_line 0 = .ok (.aload_n 0, 1) := by decide +kernel
theorem dX12_line_1 : decode cX12_line 1 = .ok (.iload_n 1, 1) := by decide +kernel
theorem dX12_line_2 : decode cX12_line 2 = .ok (.iconst 0, 1) := by decide +kernel
theorem dX12_line_3 : decode cX12_line 3 = .ok (.bipush 7, 2) := by decide +kernel
theorem dX12_line_5 : decode cX12_line 5 = .ok (.invokestatic 64, 3) := by decide +kernel
theorem dX12_line_8 : decode cX12_line 8 = .ok (.ifCond .eq 7, 3) := by decide +kernel
theorem dX12_line_11 : decode cX12_line 11 = .ok (.iconst 0, 1) := by decide +kernel
theorem dX12_line_12 : decode cX12_line 12 = .ok (.goto 4, 3) := by decide +kernel
theorem dX12_line_15 : decode cX12_line 15 = .ok (.iconst 1, 1) := by decide +kernel
theorem dX12_line_16 : decode cX12_line 16 = .ok (.putfield 42, 3) := by decide +kernel
theorem dX12_line_19 : decode cX12_line 19 = .ok (.aload_n 0, 1) := by decide +kernel
theorem dX12_line_20 : decode cX12_line 20 = .ok (.getfield 42, 3) := by decide +kernel
theorem dX12_line_23 : decode cX12_line 23 = .ok (.ifCond .le 5, 3) := by decide +kernel
theorem dX12_line_26 : decode cX12_line 26 = .ok (.iconst 0, 1) := by decide +kernel
theorem dX12_line_27 : decode cX12_line 27 = .ok (.ireturn, 1) := by decide +kernel
theorem dX12_line_28 : decode cX12_line 28 = .ok (.aload_n 0, 1) := by decide +kernel
theorem dX12_line_29 : decode cX12_line 29 = .ok (.iconst 0, 1) := by decide +kernel
theorem dX12_line_30 : decode cX12_line 30 = .ok (.putfield 208, 3) := by decide +kernel
theorem dX12_line_33 : decode cX12_line 33 = .ok (.iconst 0, 1) := by decide +kernel
theorem dX12_line_34 : decode cX12_line 34 = .ok (.istore_n 2, 1) := by decide +kernel
theorem dX12_line_35 : decode cX12_line 35 = .ok (.iload_n 2, 1) := by decide +kernel
theorem dX12_line_36 : decode cX12_line 36 = .ok (.bipush 8, 2) := by decide +kernel
theorem dX12_line_38 : decode cX12_line 38 = .ok (.if_icmp .ge 23, 3) := by decide +kernel
theorem dX12_line_41 : decode cX12_line 41 = .ok (.aload_n 0, 1) := by decide +kernel
theorem dX12_line_42 : decode cX12_line 42 = .ok (.aload_n 0, 1) := by decide +kernel
theorem dX12_line_43 : decode cX12_line 43 = .ok (.bipush 8, 2) := by decide +kernel
theorem dX12_line_45 : decode cX12_line 45 = .ok (.iload_n 1, 1) := by decide +kernel
theorem dX12_line_46 : decode cX12_line 46 = .ok (.imul, 1) := by decide +kernel
theorem dX12_line_47 : decode cX12_line 47 = .ok (.iload_n 2, 1) := by decide +kernel
theorem dX12_line_48 : decode cX12_line 48 = .ok (.iadd, 1) := by decide +kernel
theorem dX12_line_49 : decode cX12_line 49 = .ok (.invokevirtual 218, 3) := by decide +kernel
theorem dX12_line_52 : decode cX12_line 52 = .ok (.invokevirtual 214, 3) := by decide +kernel
theorem dX12_line_55 : decode cX12_line 55 = .ok (.iinc 2 1, 3) := by decide +kernel
theorem dX12_line_58 : decode cX12_line 58 = .ok (.goto (-23), 3) := by decide +kernel
theorem dX12_line_61 : decode cX12_line 61 = .ok (.aload_n 0, 1) := by decide +kernel
theorem dX12_line_62 : decode cX12_line 62 = .ok (.getfield 208, 3) := by decide +kernel
theorem dX12_line_65 : decode cX12_line 65 = .ok (.ireturn, 1) := by decide +kernel
theorem k_X12_line : cardV yX12_line (Cond.code yX12_line cX12_line 3 (some .int)) 1 := ⟨⟨qi_X12_line, qv_X12_line⟩, qc_X12_line, qn_X12, by decide +kernel, by decide +kernel, by decide +kernel⟩
set_option maxHeartbeats 4000000 in
set_option maxRecDepth 100000 in
theorem c_X12_line (l : Launch) (D : va_G) (g : Nat → ClassId) (q_this q_s q_before q_saved q_past q_steps q_goes q_line q_text q_orders : Nat) (p1 : Int32) (f_isSaved : Int32) (f_pastMany : Int32) (f_thrown : Int32) (f_reason : Int32) (f_detail : Int32) (f_isRefused : Int32) (f_goesMany : Int32) (f_roundSteps : Int32) (f_lineMany : Int32) (f_length : Int32) (f_at : Int32) (f_isWrong : Int32) (f_errorAt : Int32) (f_orderMany : Int32) (a_s : Nat → Int32) (a_line : Nat → Int32) (o : Int32 × Int32 × Int32 × (Nat → Int32)) (h : F_X12_line p1 a_s f_thrown f_lineMany a_line = some o) : MW l yX12_line (Cond.code yX12_line cX12_line 3 (some .int)) { frames := 4, cells := 0, slots := 0, locals := 86 } D g [.ref q_this, .int p1] [(q_this, .inr (12, [.ref q_s, .ref q_before, .ref q_saved, .int f_isSaved, .ref q_past, .int f_pastMany, .int f_thrown, .int f_reason, .int f_detail, .int f_isRefused, .ref q_steps, .ref q_goes, .int f_goesMany, .int f_roundSteps, .ref q_line, .int f_lineMany, .ref q_text, .int f_length, .int f_at, .int f_isWrong, .int f_errorAt, .ref q_orders, .int f_orderMany])), (q_s, .inl (g 0, 147, .inl a_s)), (q_line, .inl (g 1, 40, .inl a_line))] (some (.int o.1)) [(q_this, .inr (12, [.ref q_s, .ref q_before, .ref q_saved, .int f_isSaved, .ref q_past, .int f_pastMany, .int o.2.1, .int f_reason, .int f_detail, .int f_isRefused, .ref q_steps, .ref q_goes, .int f_goesMany, .int f_roundSteps, .ref q_line, .int o.2.2.1, .ref q_text, .int f_length, .int f_at, .int f_isWrong, .int f_errorAt, .ref q_orders, .int f_orderMany])), (q_s, .inl (g 0, 147, .inl a_s)), (q_line, .inl (g 1, 40, .inl o.2.2.2))] := by
  refine z_wr_start (by decide) (Nat.le_of_ble_eq_true rfl) ?_
  intro p e s m args below meth c Q A X hr hQ hA
  refine z_lv (lv' := [(0, .ref q_this), (1, .int p1)]) rfl ?_
  have H35 : ∀ (n : Nat) (x2 : Int32) (f_thrown : Int32) (f_lineMany : Int32) (a_line : Nat → Int32), L_X12_line_35 p1 a_s  n x2 f_thrown f_lineMany a_line = some o → Z p l e { frames := 4, cells := 0, slots := 0, locals := 86 } s m args below meth c Q 3 0 0 (IW D A s [(q_this, .inr (12, [.ref q_s, .ref q_before, .ref q_saved, .int f_isSaved, .ref q_past, .int f_pastMany, .int f_thrown, .int f_reason, .int f_detail, .int f_isRefused, .ref q_steps, .ref q_goes, .int f_goesMany, .int f_roundSteps, .ref q_line, .int f_lineMany, .ref q_text, .int f_length, .int f_at, .int f_isWrong, .int f_errorAt, .ref q_orders, .int f_orderMany])), (q_s, .inl (g 0, 147, .inl a_s)), (q_line, .inl (g 1, 40, .inl a_line))]) 35 [(0, .ref q_this), (1, .int p1), (2, .int x2)] [] := by
    intro n
    induction n with
    | zero => intro x2 f_thrown f_lineMany a_line h; cases h
    | succ n35 ih35 =>
      intro x2 f_thrown f_lineMany a_line h
      refine z_iload_n X 2 dX12_line_35 rfl rfl ?_
      refine z_bipush X (8 : Int32) dX12_line_36 (by decide) ?_
      refine z_icmp_ge X 61 dX12_line_38 (by decide) h (fun _ h => ?_) (fun _ h => ?_)
      · refine z_aload_n X 0 dX12_line_61 rfl rfl ?_
        refine z_get (q0 := 0) (k := 15) (ci := 12) X IW_P iw_X12 rfl qf_X12_X12_lineMany (by decide) dX12_line_62 rfl rfl ?_
        cases h
        exact z_iretW X hQ hA hr dX12_line_65
      · refine z_aload_n X 0 dX12_line_41 rfl rfl ?_
        refine z_aload_n X 0 dX12_line_42 rfl rfl ?_
        refine z_bipush X (8 : Int32) dX12_line_43 (by decide) ?_
        refine z_iload_n X 1 dX12_line_45 rfl rfl ?_
        refine z_imul X dX12_line_46 ?_
        refine z_iload_n X 2 dX12_line_47 rfl rfl ?_
        refine z_iadd X dX12_line_48 ?_
        obtain ⟨o3, e4, h⟩ := bnd_p h
        refine z_rdV (rest := [.ref q_this]) (q0 := 0) (ci := 12) X IW_P k_X12_signOf (c_X12_signOf l D g q_this q_s q_before q_saved q_past q_steps q_goes q_line q_text q_orders (((8 : Int32) * p1) + x2) f_isSaved f_pastMany f_thrown f_reason f_detail f_isRefused f_goesMany f_roundSteps f_lineMany f_length f_at f_isWrong f_errorAt f_orderMany a_s o3 e4) ql_X12_X12_signOf dX12_line_49 [0, 1] rfl rfl rfl rfl rfl rfl ⟨Nat.le_of_ble_eq_true rfl, Nat.le_of_ble_eq_true rfl, rfl, rfl, Nat.le_of_ble_eq_true rfl, Nat.le_of_ble_eq_true rfl⟩ (Nat.le_of_ble_eq_true rfl) ?_
        obtain ⟨o5, e6, h⟩ := bnd_p h
        refine z_wrV (rest := []) (q0 := 0) (ci := 12) (ws' := [(q_this, .inr (12, [.ref q_s, .ref q_before, .ref q_saved, .int f_isSaved, .ref q_past, .int f_pastMany, .int f_thrown, .int f_reason, .int f_detail, .int f_isRefused, .ref q_steps, .ref q_goes, .int f_goesMany, .int f_roundSteps, .ref q_line, .int o5.1, .ref q_text, .int f_length, .int f_at, .int f_isWrong, .int f_errorAt, .ref q_orders, .int f_orderMany])), (q_s, .inl (g 0, 147, .inl a_s)), (q_line, .inl (g 1, 40, .inl o5.2))]) (wr := [(q_s, .inl (g 0, 147, .inl a_s))]) (as := [q_this, q_s, q_line]) X k_X12_says (c_X12_says l D g q_this q_s q_before q_saved q_past q_steps q_goes q_line q_text q_orders o3 f_isSaved f_pastMany f_thrown f_reason f_detail f_isRefused f_goesMany f_roundSteps f_lineMany f_length f_at f_isWrong f_errorAt f_orderMany a_line o5 e6) ql_X12_X12_says dX12_line_52 [0, 2] [1] ⟨rfl, rfl, rfl, rfl, rfl, rfl, rfl, rfl⟩ rfl rfl rfl rfl rfl ⟨Nat.le_of_ble_eq_true rfl, Nat.le_of_ble_eq_true rfl, rfl, rfl, Nat.le_of_ble_eq_true rfl, Nat.le_of_ble_eq_true rfl⟩ (Nat.le_of_ble_eq_true rfl) ?_
        refine z_iinc X 2 [(2, .int (x2 + 1)), (0, .ref q_this), (1, .int p1)] dX12_line_55 rfl rfl (by decide) rfl ?_
        refine z_goto X 35 dX12_line_58 (by decide) ?_
        refine z_sub (lv' := [(0, .ref q_this), (1, .int p1), (2, .int (x2 + 1))]) [1, 2, 0] rfl ?_
        exact ih35 (x2 + 1) f_thrown o5.1 o5.2 h
  have H16 : ∀ (t0 : Int32) (f_thrown : Int32) (f_lineMany : Int32) (a_line : Nat → Int32), J_X12_line_16 p1 a_s t0 f_thrown f_lineMany a_line = some o → Z p l e { frames := 4, cells := 0, slots := 0, locals := 86 } s m args below meth c Q 3 0 0 (IW D A s [(q_this, .inr (12, [.ref q_s, .ref q_before, .ref q_saved, .int f_isSaved, .ref q_past, .int f_pastMany, .int f_thrown, .int f_reason, .int f_detail, .int f_isRefused, .ref q_steps, .ref q_goes, .int f_goesMany, .int f_roundSteps, .ref q_line, .int f_lineMany, .ref q_text, .int f_length, .int f_at, .int f_isWrong, .int f_errorAt, .ref q_orders, .int f_orderMany])), (q_s, .inl (g 0, 147, .inl a_s)), (q_line, .inl (g 1, 40, .inl a_line))]) 16 [(0, .ref q_this), (1, .int p1)] [.int t0, .ref q_this] := by
    intro t0 f_thrown f_lineMany a_line h
    refine z_put (q0 := 0) (k := 6) (ci := 12) (ws' := [(q_this, .inr (12, [.ref q_s, .ref q_before, .ref q_saved, .int f_isSaved, .ref q_past, .int f_pastMany, .int t0, .int f_reason, .int f_detail, .int f_isRefused, .ref q_steps, .ref q_goes, .int f_goesMany, .int f_roundSteps, .ref q_line, .int f_lineMany, .ref q_text, .int f_length, .int f_at, .int f_isWrong, .int f_errorAt, .ref q_orders, .int f_orderMany])), (q_s, .inl (g 0, 147, .inl a_s)), (q_line, .inl (g 1, 40, .inl a_line))]) X iw_X12 tyX12_ok nmX12 rfl qf_X12_X12_thrown (by decide) rfl rfl dX12_line_16 rfl rfl rfl (Nat.le_of_ble_eq_true rfl) rfl ?_
    refine z_aload_n X 0 dX12_line_19 rfl rfl ?_
    refine z_get (q0 := 0) (k := 6) (ci := 12) X IW_P iw_X12 rfl qf_X12_X12_thrown (by decide) dX12_line_20 rfl rfl ?_
    refine z_if_le X 28 dX12_line_23 (by decide) h (fun _ h => ?_) (fun _ h => ?_)
    · refine z_aload_n X 0 dX12_line_28 rfl rfl ?_
      refine z_iconst X (0 : Int32) dX12_line_29 (by decide) ?_
      refine z_put (q0 := 0) (k := 15) (ci := 12) (ws' := [(q_this, .inr (12, [.ref q_s, .ref q_before, .ref q_saved, .int f_isSaved, .ref q_past, .int f_pastMany, .int t0, .int f_reason, .int f_detail, .int f_isRefused, .ref q_steps, .ref q_goes, .int f_goesMany, .int f_roundSteps, .ref q_line, .int (0 : Int32), .ref q_text, .int f_length, .int f_at, .int f_isWrong, .int f_errorAt, .ref q_orders, .int f_orderMany])), (q_s, .inl (g 0, 147, .inl a_s)), (q_line, .inl (g 1, 40, .inl a_line))]) X iw_X12 tyX12_ok nmX12 rfl qf_X12_X12_lineMany (by decide) rfl rfl dX12_line_30 rfl rfl rfl (Nat.le_of_ble_eq_true rfl) rfl ?_
      refine z_iconst X (0 : Int32) dX12_line_33 (by decide) ?_
      refine z_istore_n X [(2, .int (0 : Int32)), (0, .ref q_this), (1, .int p1)] dX12_line_34 rfl (by decide) rfl ?_
      refine z_sub (lv' := [(0, .ref q_this), (1, .int p1), (2, .int (0 : Int32))]) [1, 2, 0] rfl ?_
      exact H35 100 (0 : Int32) t0 (0 : Int32) a_line h
    · refine z_iconst X (0 : Int32) dX12_line_26 (by decide) ?_
      cases h
      exact z_iretW X hQ hA hr dX12_line_27
  refine z_aload_n X 0 dX12_line_0 rfl rfl ?_
  refine z_iload_n X 1 dX12_line_1 rfl rfl ?_
  refine z_iconst X (0 : Int32) dX12_line_2 (by decide) ?_
  refine z_bipush X (7 : Int32) dX12_line_3 (by decide) ?_
  obtain ⟨o1, e2, h⟩ := bnd_p h
  refine z_rdS (rest := [.ref q_this]) X IW_P k_X12_in (c_X12_in l D g p1 (0 : Int32) (7 : Int32) o1 e2) ql_X12_X12_in dX12_line_5 [] rfl rfl rfl ⟨Nat.le_of_ble_eq_true rfl, Nat.le_of_ble_eq_true rfl, rfl, rfl, Nat.le_of_ble_eq_true rfl, Nat.le_of_ble_eq_true rfl⟩ (Nat.le_of_ble_eq_true rfl) ?_
  refine z_if_eq X 15 dX12_line_8 (by decide) h (fun _ h => ?_) (fun _ h => ?_)
  · refine z_iconst X (1 : Int32) dX12_line_15 (by decide) ?_
    exact H16 (1 : Int32) f_thrown f_lineMany a_line h
  · refine z_iconst X (0 : Int32) dX12_line_11 (by decide) ?_
    refine z_goto X 16 dX12_line_12 (by decide) ?_
    exact H16 (0 : Int32) f_thrown f_lineMany a_line h

def J_X12_character_20 (p1 : Int32) (f_lineMany : Int32) (a_line : Nat → Int32) (t0 : Int32) (f_thrown : Int32) : Option (Int32 × Int32) :=
  brn (t0 ≤ 0) (grd (inb p1 40) (grd (vp_nar .char (a_line p1.toNatClampNeg) = (a_line p1.toNatClampNeg)) (some (a_line p1.toNatClampNeg, t0)))) (grd (vp_nar .char (32 : Int32) = (32 : Int32)) (some ((32 : Int32), t0)))

def F_X12_character (p1 : Int32) (f_lineMany : Int32) (a_line : Nat → Int32) (f_thrown : Int32) : Option (Int32 × Int32) :=
  bnd (F_X12_in p1 (0 : Int32) (f_lineMany - (1 : Int32))) (fun o1 => brn (o1 = 0) (J_X12_character_20 p1 f_lineMany a_line (1 : Int32) f_thrown) (J_X12_character_20 p1 f_lineMany a_line (0 : Int32) f_thrown))
theorem dX12_character_0 : decode cX12_character 0 = .ok (.aload_n 0, 1) := by decide +kernel
theorem dX12_character_1 : decode cX12_character 1 = .ok (.iload_n 1, 1) := by decide +kernel
theorem dX12_character_2 : decode cX12_character 2 = .ok (.iconst 0, 1) := by decide +kernel
theorem dX12_character_3 : decode cX12_character 3 = .ok (.aload_n 0, 1) := by decide +kernel
theorem dX12_character_4 : decode cX12_character 4 = .ok (.getfield 208, 3) := by decide +kernel
theorem dX12_character_7 : decode cX12_character 7 = .ok (.iconst 1, 1) := by decide +kernel
theorem dX12_character_8 : decode cX12_character 8 = .ok (.isub, 1) := by decide +kernel
theorem dX12_character_9 : decode cX12_character 9 = .ok (.invokestatic 64, 3) := by decide +kernel
theorem dX12_character_12 : decode cX12_character 12 = .ok (.ifCond .eq 7, 3) := by decide +kernel
theorem dX12_character_15 : decode cX12_character 15 = .ok (.iconst 0, 1) := by decide +kernel
theorem dX12_character_16 : decode cX12_character 16 = .ok (.goto 4, 3) := by decide +kernel
theorem dX12_character_19 : decode cX12_character 19 = .ok (.iconst 1, 1) := by decide +kernel
theorem dX12_character_20 : decode cX12_character 20 = .ok (.putfield 42, 3) := by decide +kernel
theorem dX12_character_23 : decode cX12_character 23 = .ok (.aload_n 0, 1) := by decide +kernel
theorem dX12_character_24 : decode cX12_character 24 = .ok (.getfield 42, 3) := by decide +kernel
theorem dX12_character_27 : decode cX12_character 27 = .ok (.ifCond .le 8, 3) := by decide +kernel
theorem dX12_character_30 : decode cX12_character 30 = .ok (.bipush 32, 2) := by decide +kernel
theorem dX12_character_32 : decode cX12_character 32 = .ok (.goto 9, 3) := by decide +kernel
theorem dX12_character_35 : decode cX12_character 35 = .ok (.aload_n 0, 1) := by decide +kernel
theorem dX12_character_36 : decode cX12_character 36 = .ok (.getfield 28, 3) := by decide +kernel
theorem dX12_character_39 : decode cX12_character 39 = .ok (.iload_n 1, 1) := by decide +kernel
theorem dX12_character_40 : decode cX12_character 40 = .ok (.caload, 1) := by decide +kernel
theorem dX12_character_41 : decode cX12_character 41 = .ok (.ireturn, 1) := by decide +kernel
theorem k_X12_character : cardV yX12_character (Cond.code yX12_character cX12_character 2 (some .char)) 1 := ⟨⟨qi_X12_character, qv_X12_character⟩, qc_X12_character, qn_X12, by decide +kernel, by decide +kernel, by decide +kernel⟩
set_option maxHeartbeats 4000000 in
set_option maxRecDepth 100000 in
theorem c_X12_character (l : Launch) (D : va_G) (g : Nat → ClassId) (q_this q_s q_before q_saved q_past q_steps q_goes q_line q_text q_orders : Nat) (p1 : Int32) (f_isSaved : Int32) (f_pastMany : Int32) (f_thrown : Int32) (f_reason : Int32) (f_detail : Int32) (f_isRefused : Int32) (f_goesMany : Int32) (f_roundSteps : Int32) (f_lineMany : Int32) (f_length : Int32) (f_at : Int32) (f_isWrong : Int32) (f_errorAt : Int32) (f_orderMany : Int32) (a_line : Nat → Int32) (o : Int32 × Int32) (h : F_X12_character p1 f_lineMany a_line f_thrown = some o) : MW l yX12_character (Cond.code yX12_character cX12_character 2 (some .char)) { frames := 1, cells := 0, slots := 0, locals := 22 } D g [.ref q_this, .int p1] [(q_this, .inr (12, [.ref q_s, .ref q_before, .ref q_saved, .int f_isSaved, .ref q_past, .int f_pastMany, .int f_thrown, .int f_reason, .int f_detail, .int f_isRefused, .ref q_steps, .ref q_goes, .int f_goesMany, .int f_roundSteps, .ref q_line, .int f_lineMany, .ref q_text, .int f_length, .int f_at, .int f_isWrong, .int f_errorAt, .ref q_orders, .int f_orderMany])), (q_line, .inl (g 1, 40, .inl a_line))] (some (.int o.1)) [(q_this, .inr (12, [.ref q_s, .ref q_before, .ref q_saved, .int f_isSaved, .ref q_past, .int f_pastMany, .int o.2, .int f_reason, .int f_detail, .int f_isRefused, .ref q_steps, .ref q_goes, .int f_goesMany, .int f_roundSteps, .ref q_line, .int f_lineMany, .ref q_text, .int f_length, .int f_at, .int f_isWrong, .int f_errorAt, .ref q_orders, .int f_orderMany])), (q_line, .inl (g 1, 40, .inl a_line))] := by
  refine z_wr_start (by decide) (Nat.le_of_ble_eq_true rfl) ?_
  intro p e s m args below meth c Q A X hr hQ hA
  refine z_lv (lv' := [(0, .ref q_this), (1, .int p1)]) rfl ?_
  have H20 : ∀ (t0 : Int32) (f_thrown : Int32), J_X12_character_20 p1 f_lineMany a_line t0 f_thrown = some o → Z p l e { frames := 1, cells := 0, slots := 0, locals := 22 } s m args below meth c Q 2 0 0 (IW D A s [(q_this, .inr (12, [.ref q_s, .ref q_before, .ref q_saved, .int f_isSaved, .ref q_past, .int f_pastMany, .int f_thrown, .int f_reason, .int f_detail, .int f_isRefused, .ref q_steps, .ref q_goes, .int f_goesMany, .int f_roundSteps, .ref q_line, .int f_lineMany, .ref q_text, .int f_length, .int f_at, .int f_isWrong, .int f_errorAt, .ref q_orders, .int f_orderMany])), (q_line, .inl (g 1, 40, .inl a_line))]) 20 [(0, .ref q_this), (1, .int p1)] [.int t0, .ref q_this] := by
    intro t0 f_thrown h
    refine z_put (q0 := 0) (k := 6) (ci := 12) (ws' := [(q_this, .inr (12, [.ref q_s, .ref q_before, .ref q_saved, .int f_isSaved, .ref q_past, .int f_pastMany, .int t0, .int f_reason, .int f_detail, .int f_isRefused, .ref q_steps, .ref q_goes, .int f_goesMany, .int f_roundSteps, .ref q_line, .int f_lineMany, .ref q_text, .int f_length, .int f_at, .int f_isWrong, .int f_errorAt, .ref q_orders, .int f_orderMany])), (q_line, .inl (g 1, 40, .inl a_line))]) X iw_X12 tyX12_ok nmX12 rfl qf_X12_X12_thrown (by decide) rfl rfl dX12_character_20 rfl rfl rfl (Nat.le_of_ble_eq_true rfl) rfl ?_
    refine z_aload_n X 0 dX12_character_23 rfl rfl ?_
    refine z_get (q0 := 0) (k := 6) (ci := 12) X IW_P iw_X12 rfl qf_X12_X12_thrown (by decide) dX12_character_24 rfl rfl ?_
    refine z_if_le X 35 dX12_character_27 (by decide) h (fun _ h => ?_) (fun _ h => ?_)
    · refine z_aload_n X 0 dX12_character_35 rfl rfl ?_
      refine z_get (q0 := 0) (k := 14) (ci := 12) X IW_P iw_X12 rfl qf_X12_X12_line (by decide) dX12_character_36 rfl rfl ?_
      refine z_iload_n X 1 dX12_character_39 rfl rfl ?_
      refine z_cald (q0 := 1) X IW_P dX12_character_40 rfl h (fun h => ?_)
      obtain ⟨e3, h⟩ := grd_p h
      cases h
      exact z_zretW X hQ hA hr dX12_character_41 (nar_char e3)
    · refine z_bipush X (32 : Int32) dX12_character_30 (by decide) ?_
      refine z_goto X 41 dX12_character_32 (by decide) ?_
      obtain ⟨e4, h⟩ := grd_p h
      cases h
      exact z_zretW X hQ hA hr dX12_character_41 (nar_char e4)
  refine z_aload_n X 0 dX12_character_0 rfl rfl ?_
  refine z_iload_n X 1 dX12_character_1 rfl rfl ?_
  refine z_iconst X (0 : Int32) dX12_character_2 (by decide) ?_
  refine z_aload_n X 0 dX12_character_3 rfl rfl ?_
  refine z_get (q0 := 0) (k := 15) (ci := 12) X IW_P iw_X12 rfl qf_X12_X12_lineMany (by decide) dX12_character_4 rfl rfl ?_
  refine z_iconst X (1 : Int32) dX12_character_7 (by decide) ?_
  refine z_isub X dX12_character_8 ?_
  obtain ⟨o1, e2, h⟩ := bnd_p h
  refine z_rdS (rest := [.ref q_this]) X IW_P k_X12_in (c_X12_in l D g p1 (0 : Int32) (f_lineMany - (1 : Int32)) o1 e2) ql_X12_X12_in dX12_character_9 [] rfl rfl rfl ⟨Nat.le_of_ble_eq_true rfl, Nat.le_of_ble_eq_true rfl, rfl, rfl, Nat.le_of_ble_eq_true rfl, Nat.le_of_ble_eq_true rfl⟩ (Nat.le_of_ble_eq_true rfl) ?_
  refine z_if_eq X 19 dX12_character_12 (by decide) h (fun _ h => ?_) (fun _ h => ?_)
  · refine z_iconst X (1 : Int32) dX12_character_19 (by decide) ?_
    exact H20 (1 : Int32) f_thrown h
  · refine z_iconst X (0 : Int32) dX12_character_15 (by decide) ?_
    refine z_goto X 20 dX12_character_16 (by decide) ?_
    exact H20 (0 : Int32) f_thrown h

def J_X12_append_15 (p1 : Int32) (t0 : Int32) (f_thrown : Int32) (f_length : Int32) (a_text : Nat → Int32) : Option (Int32 × Int32 × Int32 × (Nat → Int32)) :=
  brn (t0 ≤ 0) (grd (inb f_length 60) (some ((f_length + (1 : Int32)), t0, (f_length + (1 : Int32)), (upd a_text f_length.toNatClampNeg (vp_nar .char p1))))) (some ((0 : Int32), t0, f_length, a_text))

def F_X12_append (p1 : Int32) (f_thrown : Int32) (f_length : Int32) (a_text : Nat → Int32) : Option (Int32 × Int32 × Int32 × (Nat → Int32)) :=
  brn (f_length = (60 : Int32)) (J_X12_append_15 p1 (1 : Int32) f_thrown f_length a_text) (J_X12_append_15 p1 (0 : Int32) f_thrown f_length a_text)
theorem dX12_append_0 : decode cX12_append 0 = .ok (.aload_n 0, 1) := by decide +kernel
theorem dX12_append_1 : decode cX12_append 1 = .ok (.aload_n 0, 1) := by decide +kernel
theorem dX12_append_2 : decode cX12_append 2 = .ok (.getfield 225, 3) := by decide +kernel
theorem dX12_append_5 : decode cX12_append 5 = .ok (.bipush 60, 2) := by decide +kernel
theorem dX12_append_7 : decode cX12_append 7 = .ok (.if_icmp .ne 7, 3) := by decide +kernel
theorem dX12_append_10 : decode cX12_append 10 = .ok (.iconst 1, 1) := by decide +kernel
theorem dX12_append_11 : decode cX12_append 11 = .ok (.goto 4, 3) := by decide +kernel
theorem dX12_append_14 : decode cX12_append 14 = .ok (.iconst 0, 1) := by decide +kernel
theorem dX12_append_15 : decode cX12_append 15 = .ok (.putfield 42, 3) := by decide +kernel
theorem dX12_append_18 : decode cX12_append 18 = .ok (.aload_n 0, 1) := by decide +kernel
theorem dX12_append_19 : decode cX12_append 19 = .ok (.getfield 42, 3) := by decide +kernel
theorem dX12_append_22 : decode cX12_append 22 = .ok (.ifCond .le 5, 3) := by decide +kernel
theorem dX12_append_25 : decode cX12_append 25 = .ok (.iconst 0, 1) := by decide +kernel
theorem dX12_append_26 : decode cX12_append 26 = .ok (.ireturn, 1) := by decide +kernel
theorem dX12_append_27 : decode cX12_append 27 = .ok (.aload_n 0, 1) := by decide +kernel
theorem dX12_append_28 : decode cX12_append 28 = .ok (.getfield 32, 3) := by decide +kernel
theorem dX12_append_31 : decode cX12_append 31 = .ok (.aload_n 0, 1) := by decide +kernel
theorem dX12_append_32 : decode cX12_append 32 = .ok (.getfield 225, 3) := by decide +kernel
theorem dX12_append_35 : decode cX12_append 35 = .ok (.iload_n 1, 1) := by decide +kernel
theorem dX12_append_36 : decode cX12_append 36 = .ok (.castore, 1) := by decide +kernel
theorem dX12_append_37 : decode cX12_append 37 = .ok (.aload_n 0, 1) := by decide +kernel
theorem dX12_append_38 : decode cX12_append 38 = .ok (.dup, 1) := by decide +kernel
theorem dX12_append_39 : decode cX12_append 39 = .ok (.getfield 225, 3) := by decide +kernel
theorem dX12_append_42 : decode cX12_append 42 = .ok (.iconst 1, 1) := by decide +kernel
theorem dX12_append_43 : decode cX12_append 43 = .ok (.iadd, 1) := by decide +kernel
theorem dX12_append_44 : decode cX12_append 44 = .ok (.putfield 225, 3) := by decide +kernel
theorem dX12_append_47 : decode cX12_append 47 = .ok (.aload_n 0, 1) := by decide +kernel
theorem dX12_append_48 : decode cX12_append 48 = .ok (.getfield 225, 3) := by decide +kernel
theorem dX12_append_51 : decode cX12_append 51 = .ok (.ireturn, 1) := by decide +kernel
theorem k_X12_append : cardV yX12_append (Cond.code yX12_append cX12_append 2 (some .int)) 1 := ⟨⟨qi_X12_append, qv_X12_append⟩, qc_X12_append, qn_X12, by decide +kernel, by decide +kernel, by decide +kernel⟩
set_option maxHeartbeats 4000000 in
set_option maxRecDepth 100000 in
theorem c_X12_append (l : Launch) (D : va_G) (g : Nat → ClassId) (q_this q_s q_before q_saved q_past q_steps q_goes q_line q_text q_orders : Nat) (p1 : Int32) (f_isSaved : Int32) (f_pastMany : Int32) (f_thrown : Int32) (f_reason : Int32) (f_detail : Int32) (f_isRefused : Int32) (f_goesMany : Int32) (f_roundSteps : Int32) (f_lineMany : Int32) (f_length : Int32) (f_at : Int32) (f_isWrong : Int32) (f_errorAt : Int32) (f_orderMany : Int32) (a_text : Nat → Int32) (o : Int32 × Int32 × Int32 × (Nat → Int32)) (h : F_X12_append p1 f_thrown f_length a_text = some o) : MW l yX12_append (Cond.code yX12_append cX12_append 2 (some .int)) { frames := 0, cells := 0, slots := 0, locals := 0 } D g [.ref q_this, .int p1] [(q_this, .inr (12, [.ref q_s, .ref q_before, .ref q_saved, .int f_isSaved, .ref q_past, .int f_pastMany, .int f_thrown, .int f_reason, .int f_detail, .int f_isRefused, .ref q_steps, .ref q_goes, .int f_goesMany, .int f_roundSteps, .ref q_line, .int f_lineMany, .ref q_text, .int f_length, .int f_at, .int f_isWrong, .int f_errorAt, .ref q_orders, .int f_orderMany])), (q_text, .inl (g 1, 60, .inl a_text))] (some (.int o.1)) [(q_this, .inr (12, [.ref q_s, .ref q_before, .ref q_saved, .int f_isSaved, .ref q_past, .int f_pastMany, .int o.2.1, .int f_reason, .int f_detail, .int f_isRefused, .ref q_steps, .ref q_goes, .int f_goesMany, .int f_roundSteps, .ref q_line, .int f_lineMany, .ref q_text, .int o.2.2.1, .int f_at, .int f_isWrong, .int f_errorAt, .ref q_orders, .int f_orderMany])), (q_text, .inl (g 1, 60, .inl o.2.2.2))] := by
  refine z_wr_start (by decide) (Nat.le_of_ble_eq_true rfl) ?_
  intro p e s m args below meth c Q A X hr hQ hA
  refine z_lv (lv' := [(0, .ref q_this), (1, .int p1)]) rfl ?_
  have H15 : ∀ (t0 : Int32) (f_thrown : Int32) (f_length : Int32) (a_text : Nat → Int32), J_X12_append_15 p1 t0 f_thrown f_length a_text = some o → Z p l e { frames := 0, cells := 0, slots := 0, locals := 0 } s m args below meth c Q 2 0 0 (IW D A s [(q_this, .inr (12, [.ref q_s, .ref q_before, .ref q_saved, .int f_isSaved, .ref q_past, .int f_pastMany, .int f_thrown, .int f_reason, .int f_detail, .int f_isRefused, .ref q_steps, .ref q_goes, .int f_goesMany, .int f_roundSteps, .ref q_line, .int f_lineMany, .ref q_text, .int f_length, .int f_at, .int f_isWrong, .int f_errorAt, .ref q_orders, .int f_orderMany])), (q_text, .inl (g 1, 60, .inl a_text))]) 15 [(0, .ref q_this), (1, .int p1)] [.int t0, .ref q_this] := by
    intro t0 f_thrown f_length a_text h
    refine z_put (q0 := 0) (k := 6) (ci := 12) (ws' := [(q_this, .inr (12, [.ref q_s, .ref q_before, .ref q_saved, .int f_isSaved, .ref q_past, .int f_pastMany, .int t0, .int f_reason, .int f_detail, .int f_isRefused, .ref q_steps, .ref q_goes, .int f_goesMany, .int f_roundSteps, .ref q_line, .int f_lineMany, .ref q_text, .int f_length, .int f_at, .int f_isWrong, .int f_errorAt, .ref q_orders, .int f_orderMany])), (q_text, .inl (g 1, 60, .inl a_text))]) X iw_X12 tyX12_ok nmX12 rfl qf_X12_X12_thrown (by decide) rfl rfl dX12_append_15 rfl rfl rfl (Nat.le_of_ble_eq_true rfl) rfl ?_
    refine z_aload_n X 0 dX12_append_18 rfl rfl ?_
    refine z_get (q0 := 0) (k := 6) (ci := 12) X IW_P iw_X12 rfl qf_X12_X12_thrown (by decide) dX12_append_19 rfl rfl ?_
    refine z_if_le X 27 dX12_append_22 (by decide) h (fun _ h => ?_) (fun _ h => ?_)
    · refine z_aload_n X 0 dX12_append_27 rfl rfl ?_
      refine z_get (q0 := 0) (k := 16) (ci := 12) X IW_P iw_X12 rfl qf_X12_X12_text (by decide) dX12_append_28 rfl rfl ?_
      refine z_aload_n X 0 dX12_append_31 rfl rfl ?_
      refine z_get (q0 := 0) (k := 17) (ci := 12) X IW_P iw_X12 rfl qf_X12_X12_length (by decide) dX12_append_32 rfl rfl ?_
      refine z_iload_n X 1 dX12_append_35 rfl rfl ?_
      refine z_cast (q0 := 1) (ws' := [(q_this, .inr (12, [.ref q_s, .ref q_before, .ref q_saved, .int f_isSaved, .ref q_past, .int f_pastMany, .int t0, .int f_reason, .int f_detail, .int f_isRefused, .ref q_steps, .ref q_goes, .int f_goesMany, .int f_roundSteps, .ref q_line, .int f_lineMany, .ref q_text, .int f_length, .int f_at, .int f_isWrong, .int f_errorAt, .ref q_orders, .int f_orderMany])), (q_text, .inl (g 1, 60, .inl (upd a_text f_length.toNatClampNeg (vp_nar .char p1))))]) X dX12_append_36 rfl h rfl (fun h => ?_)
      refine z_aload_n X 0 dX12_append_37 rfl rfl ?_
      refine z_dup X dX12_append_38 rfl ?_
      refine z_get (q0 := 0) (k := 17) (ci := 12) X IW_P iw_X12 rfl qf_X12_X12_length (by decide) dX12_append_39 rfl rfl ?_
      refine z_iconst X (1 : Int32) dX12_append_42 (by decide) ?_
      refine z_iadd X dX12_append_43 ?_
      refine z_put (q0 := 0) (k := 17) (ci := 12) (ws' := [(q_this, .inr (12, [.ref q_s, .ref q_before, .ref q_saved, .int f_isSaved, .ref q_past, .int f_pastMany, .int t0, .int f_reason, .int f_detail, .int f_isRefused, .ref q_steps, .ref q_goes, .int f_goesMany, .int f_roundSteps, .ref q_line, .int f_lineMany, .ref q_text, .int (f_length + (1 : Int32)), .int f_at, .int f_isWrong, .int f_errorAt, .ref q_orders, .int f_orderMany])), (q_text, .inl (g 1, 60, .inl (upd a_text f_length.toNatClampNeg (vp_nar .char p1))))]) X iw_X12 tyX12_ok nmX12 rfl qf_X12_X12_length (by decide) rfl rfl dX12_append_44 rfl rfl rfl (Nat.le_of_ble_eq_true rfl) rfl ?_
      refine z_aload_n X 0 dX12_append_47 rfl rfl ?_
      refine z_get (q0 := 0) (k := 17) (ci := 12) X IW_P iw_X12 rfl qf_X12_X12_length (by decide) dX12_append_48 rfl rfl ?_
      cases h
      exact z_iretW X hQ hA hr dX12_append_51
    · refine z_iconst X (0 : Int32) dX12_append_25 (by decide) ?_
      cases h
      exact z_iretW X hQ hA hr dX12_append_26
  refine z_aload_n X 0 dX12_append_0 rfl rfl ?_
  refine z_aload_n X 0 dX12_append_1 rfl rfl ?_
  refine z_get (q0 := 0) (k := 17) (ci := 12) X IW_P iw_X12 rfl qf_X12_X12_length (by decide) dX12_append_2 rfl rfl ?_
  refine z_bipush X (60 : Int32) dX12_append_5 (by decide) ?_
  refine z_icmp_ne X 14 dX12_append_7 (by decide) h (fun _ h => ?_) (fun _ h => ?_)
  · refine z_iconst X (1 : Int32) dX12_append_10 (by decide) ?_
    refine z_goto X 15 dX12_append_11 (by decide) ?_
    exact H15 (1 : Int32) f_thrown f_length a_text h
  · refine z_iconst X (0 : Int32) dX12_append_14 (by decide) ?_
    exact H15 (0 : Int32) f_thrown f_length a_text h

def F_X12_isHere (p1 : Int32) (p2 : Int32) (f_length : Int32) (f_at : Int32) (f_isWrong : Int32) (a_text : Nat → Int32) : Option (Int32) :=
  brn (f_isWrong = 0) (brn (f_length ≤ f_at) (some ((0 : Int32))) (grd (inb f_at 60) (bnd (F_X12_in (a_text f_at.toNatClampNeg) p1 p2) (fun o1 => brn (o1 = 0) (some ((0 : Int32))) (some ((1 : Int32))))))) (some ((0 : Int32)))
theorem dX12_isHere_0 : decode cX12_isHere 0 = .ok (.aload_n 0, 1) := by decide +kernel
theorem dX12_isHere_1 : decode cX12_isHere 1 = .ok (.getfield 228, 3) := by decide +kernel
theorem dX12_isHere_4 : decode cX12_isHere 4 = .ok (.ifCond .ne 35, 3) := by decide +kernel
theorem dX12_isHere_7 : decode cX12_isHere 7 = .ok (.aload_n 0, 1) := by decide +kernel
theorem dX12_isHere_8 : decode cX12_isHere 8 = .ok (.getfield 231, 3) := by decide +kernel
theorem dX12_isHere_11 : decode cX12_isHere 11 = .ok (.aload_n 0, 1) := by decide +kernel
theorem dX12_isHere_12 : decode cX12_isHere 12 = .ok (.getfield 225, 3) := by decide +kernel
theorem dX12_isHere_15 : decode cX12_isHere 15 = .ok (.if_icmp .ge 24, 3) := by decide +kernel
theorem dX12_isHere_18 : decode cX12_isHere 18 = .ok (.aload_n 0, 1) := by decide +kernel
theorem dX12_isHere_19 : decode cX12_isHere 19 = .ok (.getfield 32, 3) := by decide +kernel
theorem dX12_isHere_22 : decode cX12_isHere 22 = .ok (.aload_n 0, 1) := by decide +kernel
theorem dX12_isHere_23 : decode cX12_isHere 23 = .ok (.getfield 231, 3) := by decide +kernel
theorem dX12_isHere_26 : decode cX12_isHere 26 = .ok (.caload, 1) := by decide +kernel
theorem dX12_isHere_27 : decode cX12_isHere 27 = .ok (.iload_n 1, 1) := by decide +kernel
theorem dX12_isHere_28 : decode cX12_isHere 28 = .ok (.iload_n 2, 1) := by decide +kernel
theorem dX12_isHere_29 : decode cX12_isHere 29 = .ok (.invokestatic 64, 3) := by decide +kernel
theorem dX12_isHere_32 : decode cX12_isHere 32 = .ok (.ifCond .eq 7, 3) := by decide +kernel
theorem dX12_isHere_35 : decode cX12_isHere 35 = .ok (.iconst 1, 1) := by decide +kernel
theorem dX12_isHere_36 : decode cX12_isHere 36 = .ok (.goto 4, 3) := by decide +kernel
theorem dX12_isHere_39 : decode cX12_isHere 39 = .ok (.iconst 0, 1) := by decide +kernel
theorem dX12_isHere_40 : decode cX12_isHere 40 = .ok (.ireturn, 1) := by decide +kernel
theorem k_X12_isHere : cardV yX12_isHere (Cond.code yX12_isHere cX12_isHere 3 (some .boolean)) 2 := ⟨⟨qi_X12_isHere, qv_X12_isHere⟩, qc_X12_isHere, qn_X12, by decide +kernel, by decide +kernel, by decide +kernel⟩
set_option maxHeartbeats 4000000 in
set_option maxRecDepth 100000 in
theorem c_X12_isHere (l : Launch) (D : va_G) (g : Nat → ClassId) (q_this q_s q_before q_saved q_past q_steps q_goes q_line q_text q_orders : Nat) (p1 p2 : Int32) (f_isSaved : Int32) (f_pastMany : Int32) (f_thrown : Int32) (f_reason : Int32) (f_detail : Int32) (f_isRefused : Int32) (f_goesMany : Int32) (f_roundSteps : Int32) (f_lineMany : Int32) (f_length : Int32) (f_at : Int32) (f_isWrong : Int32) (f_errorAt : Int32) (f_orderMany : Int32) (a_text : Nat → Int32) (o : Int32) (h : F_X12_isHere p1 p2 f_length f_at f_isWrong a_text = some o) : MR l yX12_isHere (Cond.code yX12_isHere cX12_isHere 3 (some .boolean)) { frames := 1, cells := 0, slots := 0, locals := 22 } D g [.ref q_this, .int p1, .int p2] [(q_this, .inr (12, [.ref q_s, .ref q_before, .ref q_saved, .int f_isSaved, .ref q_past, .int f_pastMany, .int f_thrown, .int f_reason, .int f_detail, .int f_isRefused, .ref q_steps, .ref q_goes, .int f_goesMany, .int f_roundSteps, .ref q_line, .int f_lineMany, .ref q_text, .int f_length, .int f_at, .int f_isWrong, .int f_errorAt, .ref q_orders, .int f_orderMany])), (q_text, .inl (g 1, 60, .inl a_text))] (some (.int o)) := by
  refine z_rd_start (by decide) (Nat.le_of_ble_eq_true rfl) ?_
  intro p e s m args below meth c Q X hr hQ
  refine z_lv (lv' := [(0, .ref q_this), (1, .int p1), (2, .int p2)]) rfl ?_
  refine z_aload_n X 0 dX12_isHere_0 rfl rfl ?_
  refine z_get (q0 := 0) (k := 19) (ci := 12) X IR_P iw_X12 rfl qf_X12_X12_isWrong (by decide) dX12_isHere_1 rfl rfl ?_
  refine z_if_ne X 39 dX12_isHere_4 (by decide) h (fun _ h => ?_) (fun _ h => ?_)
  · refine z_aload_n X 0 dX12_isHere_7 rfl rfl ?_
    refine z_get (q0 := 0) (k := 18) (ci := 12) X IR_P iw_X12 rfl qf_X12_X12_at (by decide) dX12_isHere_8 rfl rfl ?_
    refine z_aload_n X 0 dX12_isHere_11 rfl rfl ?_
    refine z_get (q0 := 0) (k := 17) (ci := 12) X IR_P iw_X12 rfl qf_X12_X12_length (by decide) dX12_isHere_12 rfl rfl ?_
    refine z_icmp_ge X 39 dX12_isHere_15 (by decide) h (fun _ h => ?_) (fun _ h => ?_)
    · refine z_iconst X (0 : Int32) dX12_isHere_39 (by decide) ?_
      exact z_zretR X hQ hr dX12_isHere_40 rfl h
    · refine z_aload_n X 0 dX12_isHere_18 rfl rfl ?_
      refine z_get (q0 := 0) (k := 16) (ci := 12) X IR_P iw_X12 rfl qf_X12_X12_text (by decide) dX12_isHere_19 rfl rfl ?_
      refine z_aload_n X 0 dX12_isHere_22 rfl rfl ?_
      refine z_get (q0 := 0) (k := 18) (ci := 12) X IR_P iw_X12 rfl qf_X12_X12_at (by decide) dX12_isHere_23 rfl rfl ?_
      refine z_cald (q0 := 1) X IR_P dX12_isHere_26 rfl h (fun h => ?_)
      refine z_iload_n X 1 dX12_isHere_27 rfl rfl ?_
      refine z_iload_n X 2 dX12_isHere_28 rfl rfl ?_
      obtain ⟨o1, e2, h⟩ := bnd_p h
      refine z_rdS (rest := []) X IR_P k_X12_in (c_X12_in l D g (a_text f_at.toNatClampNeg) p1 p2 o1 e2) ql_X12_X12_in dX12_isHere_29 [] rfl rfl rfl ⟨Nat.le_of_ble_eq_true rfl, Nat.le_of_ble_eq_true rfl, rfl, rfl, Nat.le_of_ble_eq_true rfl, Nat.le_of_ble_eq_true rfl⟩ (Nat.le_of_ble_eq_true rfl) ?_
      refine z_if_eq X 39 dX12_isHere_32 (by decide) h (fun _ h => ?_) (fun _ h => ?_)
      · refine z_iconst X (0 : Int32) dX12_isHere_39 (by decide) ?_
        exact z_zretR X hQ hr dX12_isHere_40 rfl h
      · refine z_iconst X (1 : Int32) dX12_isHere_35 (by decide) ?_
        refine z_goto X 40 dX12_isHere_36 (by decide) ?_
        exact z_zretR X hQ hr dX12_isHere_40 rfl h
  · refine z_iconst X (0 : Int32) dX12_isHere_39 (by decide) ?_
    exact z_zretR X hQ hr dX12_isHere_40 rfl h

def J_X12_sign_22 (p1 : Int32) (p2 : Int32) (f_length : Int32) (a_text : Nat → Int32) (t0 : Int32) (f_at : Int32) (f_isWrong : Int32) : Option (Int32 × Int32 × Int32) :=
  grd (t0 = 0 ∨ t0 = 1) (brn (t0 = 0) (grd (inb ((f_at + (1 : Int32)) - (1 : Int32)) 60) (some ((a_text ((f_at + (1 : Int32)) - (1 : Int32)).toNatClampNeg) - p1, (f_at + (1 : Int32)), t0))) (some ((0 : Int32), f_at, t0)))

def J_X12_sign_17 (p1 : Int32) (p2 : Int32) (f_length : Int32) (a_text : Nat → Int32) (f_at : Int32) (f_isWrong : Int32) : Option (Int32 × Int32 × Int32) :=
  J_X12_sign_22 p1 p2 f_length a_text (1 : Int32) f_at f_isWrong

def F_X12_sign (p1 : Int32) (p2 : Int32) (f_length : Int32) (a_text : Nat → Int32) (f_at : Int32) (f_isWrong : Int32) : Option (Int32 × Int32 × Int32) :=
  brn (f_isWrong = 0) (bnd (F_X12_isHere p1 p2 f_length f_at f_isWrong a_text) (fun o1 => brn (o1 = 0) (J_X12_sign_17 p1 p2 f_length a_text f_at f_isWrong) (J_X12_sign_22 p1 p2 f_length a_text (0 : Int32) f_at f_isWrong))) (J_X12_sign_17 p1 p2 f_length a_text f_at f_isWrong)
theorem dX12_sign_0 : decode cX12_sign 0 = .ok (.aload_n 0, 1) := by decide +kernel
theorem dX12_sign_1 : decode cX12_sign 1 = .ok (.aload_n 0, 1) := by decide +kernel
theorem dX12_sign_2 : decode cX12_sign 2 = .ok (.getfield 228, 3) := by decide +kernel
theorem dX12_sign_5 : decode cX12_sign 5 = .ok (.ifCond .ne 12, 3) := by decide +kernel
theorem dX12_sign_8 : decode cX12_sign 8 = .ok (.aload_n 0, 1) := by decide +kernel
theorem dX12_sign_9 : decode cX12_sign 9 = .ok (.iload_n 1, 1) := by decide +kernel
theorem dX12_sign_10 : decode cX12_sign 10 = .ok (.iload_n 2, 1) := by decide +kernel
theorem dX12_sign_11 : decode cX12_sign 11 = .ok (.invokevirtual 233, 3) := by decide +kernel
theorem dX12_sign_14 : decode cX12_sign 14 = .ok (.ifCond .ne 7, 3) := by decide +kernel
theorem dX12_sign_17 : decode cX12_sign 17 = .ok (.iconst 1, 1) := by decide +kernel
theorem dX12_sign_18 : decode cX12_sign 18 = .ok (.goto 4, 3) := by decide +kernel
theorem dX12_sign_21 : decode cX12_sign 21 = .ok (.iconst 0, 1) := by decide +kernel
theorem dX12_sign_22 : decode cX12_sign 22 = .ok (.putfield 228, 3) := by decide +kernel
theorem dX12_sign_25 : decode cX12_sign 25 = .ok (.aload_n 0, 1) := by decide +kernel
theorem dX12_sign_26 : decode cX12_sign 26 = .ok (.getfield 228, 3) := by decide +kernel
theorem dX12_sign_29 : decode cX12_sign 29 = .ok (.ifCond .eq 5, 3) := by decide +kernel
theorem dX12_sign_32 : decode cX12_sign 32 = .ok (.iconst 0, 1) := by decide +kernel
theorem dX12_sign_33 : decode cX12_sign 33 = .ok (.ireturn, 1) := by decide +kernel
theorem dX12_sign_34 : decode cX12_sign 34 = .ok (.aload_n 0, 1) := by decide +kernel
theorem dX12_sign_35 : decode cX12_sign 35 = .ok (.dup, 1) := by decide +kernel
theorem dX12_sign_36 : decode cX12_sign 36 = .ok (.getfield 231, 3) := by decide +kernel
theorem dX12_sign_39 : decode cX12_sign 39 = .ok (.iconst 1, 1) := by decide +kernel
theorem dX12_sign_40 : decode cX12_sign 40 = .ok (.iadd, 1) := by decide +kernel
theorem dX12_sign_41 : decode cX12_sign 41 = .ok (.putfield 231, 3) := by decide +kernel
theorem dX12_sign_44 : decode cX12_sign 44 = .ok (.aload_n 0, 1) := by decide +kernel
theorem dX12_sign_45 : decode cX12_sign 45 = .ok (.getfield 32, 3) := by decide +kernel
theorem dX12_sign_48 : decode cX12_sign 48 = .ok (.aload_n 0, 1) := by decide +kernel
theorem dX12_sign_49 : decode cX12_sign 49 = .ok (.getfield 231, 3) := by decide +kernel
theorem dX12_sign_52 : decode cX12_sign 52 = .ok (.iconst 1, 1) := by decide +kernel
theorem dX12_sign_53 : decode cX12_sign 53 = .ok (.isub, 1) := by decide +kernel
theorem dX12_sign_54 : decode cX12_sign 54 = .ok (.caload, 1) := by decide +kernel
theorem dX12_sign_55 : decode cX12_sign 55 = .ok (.iload_n 1, 1) := by decide +kernel
theorem dX12_sign_56 : decode cX12_sign 56 = .ok (.isub, 1) := by decide +kernel
theorem dX12_sign_57 : decode cX12_sign 57 = .ok (.ireturn, 1) := by decide +kernel
theorem k_X12_sign : cardV yX12_sign (Cond.code yX12_sign cX12_sign 3 (some .int)) 2 := ⟨⟨qi_X12_sign, qv_X12_sign⟩, qc_X12_sign, qn_X12, by decide +kernel, by decide +kernel, by decide +kernel⟩
set_option maxHeartbeats 4000000 in
set_option maxRecDepth 100000 in
theorem c_X12_sign (l : Launch) (D : va_G) (g : Nat → ClassId) (q_this q_s q_before q_saved q_past q_steps q_goes q_line q_text q_orders : Nat) (p1 p2 : Int32) (f_isSaved : Int32) (f_pastMany : Int32) (f_thrown : Int32) (f_reason : Int32) (f_detail : Int32) (f_isRefused : Int32) (f_goesMany : Int32) (f_roundSteps : Int32) (f_lineMany : Int32) (f_length : Int32) (f_at : Int32) (f_isWrong : Int32) (f_errorAt : Int32) (f_orderMany : Int32) (a_text : Nat → Int32) (o : Int32 × Int32 × Int32) (h : F_X12_sign p1 p2 f_length a_text f_at f_isWrong = some o) : MW l yX12_sign (Cond.code yX12_sign cX12_sign 3 (some .int)) { frames := 2, cells := 0, slots := 0, locals := 44 } D g [.ref q_this, .int p1, .int p2] [(q_this, .inr (12, [.ref q_s, .ref q_before, .ref q_saved, .int f_isSaved, .ref q_past, .int f_pastMany, .int f_thrown, .int f_reason, .int f_detail, .int f_isRefused, .ref q_steps, .ref q_goes, .int f_goesMany, .int f_roundSteps, .ref q_line, .int f_lineMany, .ref q_text, .int f_length, .int f_at, .int f_isWrong, .int f_errorAt, .ref q_orders, .int f_orderMany])), (q_text, .inl (g 1, 60, .inl a_text))] (some (.int o.1)) [(q_this, .inr (12, [.ref q_s, .ref q_before, .ref q_saved, .int f_isSaved, .ref q_past, .int f_pastMany, .int f_thrown, .int f_reason, .int f_detail, .int f_isRefused, .ref q_steps, .ref q_goes, .int f_goesMany, .int f_roundSteps, .ref q_line, .int f_lineMany, .ref q_text, .int f_length, .int o.2.1, .int o.2.2, .int f_errorAt, .ref q_orders, .int f_orderMany])), (q_text, .inl (g 1, 60, .inl a_text))] := by
  refine z_wr_start (by decide) (Nat.le_of_ble_eq_true rfl) ?_
  intro p e s m args below meth c Q A X hr hQ hA
  refine z_lv (lv' := [(0, .ref q_this), (1, .int p1), (2, .int p2)]) rfl ?_
  have H22 : ∀ (t0 : Int32) (f_at : Int32) (f_isWrong : Int32), J_X12_sign_22 p1 p2 f_length a_text t0 f_at f_isWrong = some o → Z p l e { frames := 2, cells := 0, slots := 0, locals := 44 } s m args below meth c Q 3 0 0 (IW D A s [(q_this, .inr (12, [.ref q_s, .ref q_before, .ref q_saved, .int f_isSaved, .ref q_past, .int f_pastMany, .int f_thrown, .int f_reason, .int f_detail, .int f_isRefused, .ref q_steps, .ref q_goes, .int f_goesMany, .int f_roundSteps, .ref q_line, .int f_lineMany, .ref q_text, .int f_length, .int f_at, .int f_isWrong, .int f_errorAt, .ref q_orders, .int f_orderMany])), (q_text, .inl (g 1, 60, .inl a_text))]) 22 [(0, .ref q_this), (1, .int p1)] [.int t0, .ref q_this] := by
    intro t0 f_at f_isWrong h
    obtain ⟨e3, h⟩ := grd_p h
    refine z_put (q0 := 0) (k := 19) (ci := 12) (ws' := [(q_this, .inr (12, [.ref q_s, .ref q_before, .ref q_saved, .int f_isSaved, .ref q_past, .int f_pastMany, .int f_thrown, .int f_reason, .int f_detail, .int f_isRefused, .ref q_steps, .ref q_goes, .int f_goesMany, .int f_roundSteps, .ref q_line, .int f_lineMany, .ref q_text, .int f_length, .int f_at, .int t0, .int f_errorAt, .ref q_orders, .int f_orderMany])), (q_text, .inl (g 1, 60, .inl a_text))]) X iw_X12 tyX12_ok nmX12 rfl qf_X12_X12_isWrong (by decide) rfl rfl dX12_sign_22 rfl (nar_bool e3) (fits_bool e3) (Nat.le_of_ble_eq_true rfl) rfl ?_
    refine z_aload_n X 0 dX12_sign_25 rfl rfl ?_
    refine z_get (q0 := 0) (k := 19) (ci := 12) X IW_P iw_X12 rfl qf_X12_X12_isWrong (by decide) dX12_sign_26 rfl rfl ?_
    refine z_if_eq X 34 dX12_sign_29 (by decide) h (fun _ h => ?_) (fun _ h => ?_)
    · refine z_aload_n X 0 dX12_sign_34 rfl rfl ?_
      refine z_dup X dX12_sign_35 rfl ?_
      refine z_get (q0 := 0) (k := 18) (ci := 12) X IW_P iw_X12 rfl qf_X12_X12_at (by decide) dX12_sign_36 rfl rfl ?_
      refine z_iconst X (1 : Int32) dX12_sign_39 (by decide) ?_
      refine z_iadd X dX12_sign_40 ?_
      refine z_put (q0 := 0) (k := 18) (ci := 12) (ws' := [(q_this, .inr (12, [.ref q_s, .ref q_before, .ref q_saved, .int f_isSaved, .ref q_past, .int f_pastMany, .int f_thrown, .int f_reason, .int f_detail, .int f_isRefused, .ref q_steps, .ref q_goes, .int f_goesMany, .int f_roundSteps, .ref q_line, .int f_lineMany, .ref q_text, .int f_length, .int (f_at + (1 : Int32)), .int t0, .int f_errorAt, .ref q_orders, .int f_orderMany])), (q_text, .inl (g 1, 60, .inl a_text))]) X iw_X12 tyX12_ok nmX12 rfl qf_X12_X12_at (by decide) rfl rfl dX12_sign_41 rfl rfl rfl (Nat.le_of_ble_eq_true rfl) rfl ?_
      refine z_aload_n X 0 dX12_sign_44 rfl rfl ?_
      refine z_get (q0 := 0) (k := 16) (ci := 12) X IW_P iw_X12 rfl qf_X12_X12_text (by decide) dX12_sign_45 rfl rfl ?_
      refine z_aload_n X 0 dX12_sign_48 rfl rfl ?_
      refine z_get (q0 := 0) (k := 18) (ci := 12) X IW_P iw_X12 rfl qf_X12_X12_at (by decide) dX12_sign_49 rfl rfl ?_
      refine z_iconst X (1 : Int32) dX12_sign_52 (by decide) ?_
      refine z_isub X dX12_sign_53 ?_
      refine z_cald (q0 := 1) X IW_P dX12_sign_54 rfl h (fun h => ?_)
      refine z_iload_n X 1 dX12_sign_55 rfl rfl ?_
      refine z_isub X dX12_sign_56 ?_
      cases h
      exact z_iretW X hQ hA hr dX12_sign_57
    · refine z_iconst X (0 : Int32) dX12_sign_32 (by decide) ?_
      cases h
      exact z_iretW X hQ hA hr dX12_sign_33
  have H17 : ∀ (f_at : Int32) (f_isWrong : Int32), J_X12_sign_17 p1 p2 f_length a_text f_at f_isWrong = some o → Z p l e { frames := 2, cells := 0, slots := 0, locals := 44 } s m args below meth c Q 3 0 0 (IW D A s [(q_this, .inr (12, [.ref q_s, .ref q_before, .ref q_saved, .int f_isSaved, .ref q_past, .int f_pastMany, .int f_thrown, .int f_reason, .int f_detail, .int f_isRefused, .ref q_steps, .ref q_goes, .int f_goesMany, .int f_roundSteps, .ref q_line, .int f_lineMany, .ref q_text, .int f_length, .int f_at, .int f_isWrong, .int f_errorAt, .ref q_orders, .int f_orderMany])), (q_text, .inl (g 1, 60, .inl a_text))]) 17 [(0, .ref q_this), (1, .int p1)] [.ref q_this] := by
    intro f_at f_isWrong h
    refine z_iconst X (1 : Int32) dX12_sign_17 (by decide) ?_
    refine z_goto X 22 dX12_sign_18 (by decide) ?_
    exact H22 (1 : Int32) f_at f_isWrong h
  refine z_aload_n X 0 dX12_sign_0 rfl rfl ?_
  refine z_aload_n X 0 dX12_sign_1 rfl rfl ?_
  refine z_get (q0 := 0) (k := 19) (ci := 12) X IW_P iw_X12 rfl qf_X12_X12_isWrong (by decide) dX12_sign_2 rfl rfl ?_
  refine z_if_ne X 17 dX12_sign_5 (by decide) h (fun _ h => ?_) (fun _ h => ?_)
  · refine z_aload_n X 0 dX12_sign_8 rfl rfl ?_
    refine z_iload_n X 1 dX12_sign_9 rfl rfl ?_
    refine z_iload_n X 2 dX12_sign_10 rfl rfl ?_
    obtain ⟨o1, e2, h⟩ := bnd_p h
    refine z_rdV (rest := [.ref q_this]) (q0 := 0) (ci := 12) X IW_P k_X12_isHere (c_X12_isHere l D g q_this q_s q_before q_saved q_past q_steps q_goes q_line q_text q_orders p1 p2 f_isSaved f_pastMany f_thrown f_reason f_detail f_isRefused f_goesMany f_roundSteps f_lineMany f_length f_at f_isWrong f_errorAt f_orderMany a_text o1 e2) ql_X12_X12_isHere dX12_sign_11 [0, 1] rfl rfl rfl rfl rfl rfl ⟨Nat.le_of_ble_eq_true rfl, Nat.le_of_ble_eq_true rfl, rfl, rfl, Nat.le_of_ble_eq_true rfl, Nat.le_of_ble_eq_true rfl⟩ (Nat.le_of_ble_eq_true rfl) ?_
    refine z_if_ne X 21 dX12_sign_14 (by decide) h (fun _ h => ?_) (fun _ h => ?_)
    · refine z_sub (lv' := [(0, .ref q_this), (1, .int p1)]) [0, 1] rfl ?_
      exact H17 f_at f_isWrong h
    · refine z_iconst X (0 : Int32) dX12_sign_21 (by decide) ?_
      refine z_sub (lv' := [(0, .ref q_this), (1, .int p1)]) [0, 1] rfl ?_
      exact H22 (0 : Int32) f_at f_isWrong h
  · refine z_sub (lv' := [(0, .ref q_this), (1, .int p1)]) [0, 1] rfl ?_
    exact H17 f_at f_isWrong h

def F_X12_digit (f_length : Int32) (a_text : Nat → Int32) (f_at : Int32) (f_isWrong : Int32) : Option (Int32 × Int32 × Int32) :=
  bnd (F_X12_sign (48 : Int32) (57 : Int32) f_length a_text f_at f_isWrong) (fun o1 => some (o1.1, o1.2.1, o1.2.2))
theorem dX12_digit_0 : decode cX12_digit 0 = .ok (.aload_n 0, 1) := by decide +kernel
theorem dX12_digit_1 : decode cX12_digit 1 = .ok (.bipush 48, 2) := by decide +kernel
theorem dX12_digit_3 : decode cX12_digit 3 = .ok (.bipush 57, 2) := by decide +kernel
theorem dX12_digit_5 : decode cX12_digit 5 = .ok (.invokevirtual 237, 3) := by decide +kernel
theorem dX12_digit_8 : decode cX12_digit 8 = .ok (.ireturn, 1) := by decide +kernel
theorem k_X12_digit : cardV yX12_digit (Cond.code yX12_digit cX12_digit 1 (some .int)) 0 := ⟨⟨qi_X12_digit, qv_X12_digit⟩, qc_X12_digit, qn_X12, by decide +kernel, by decide +kernel, by decide +kernel⟩
set_option maxHeartbeats 4000000 in
set_option maxRecDepth 100000 in
theorem c_X12_digit (l : Launch) (D : va_G) (g : Nat → ClassId) (q_this q_s q_before q_saved q_past q_steps q_goes q_line q_text q_orders : Nat) (f_isSaved : Int32) (f_pastMany : Int32) (f_thrown : Int32) (f_reason : Int32) (f_detail : Int32) (f_isRefused : Int32) (f_goesMany : Int32) (f_roundSteps : Int32) (f_lineMany : Int32) (f_length : Int32) (f_at : Int32) (f_isWrong : Int32) (f_errorAt : Int32) (f_orderMany : Int32) (a_text : Nat → Int32) (o : Int32 × Int32 × Int32) (h : F_X12_digit f_length a_text f_at f_isWrong = some o) : MW l yX12_digit (Cond.code yX12_digit cX12_digit 1 (some .int)) { frames := 3, cells := 0, slots := 0, locals := 66 } D g [.ref q_this] [(q_this, .inr (12, [.ref q_s, .ref q_before, .ref q_saved, .int f_isSaved, .ref q_past, .int f_pastMany, .int f_thrown, .int f_reason, .int f_detail, .int f_isRefused, .ref q_steps, .ref q_goes, .int f_goesMany, .int f_roundSteps, .ref q_line, .int f_lineMany, .ref q_text, .int f_length, .int f_at, .int f_isWrong, .int f_errorAt, .ref q_orders, .int f_orderMany])), (q_text, .inl (g 1, 60, .inl a_text))] (some (.int o.1)) [(q_this, .inr (12, [.ref q_s, .ref q_before, .ref q_saved, .int f_isSaved, .ref q_past, .int f_pastMany, .int f_thrown, .int f_reason, .int f_detail, .int f_isRefused, .ref q_steps, .ref q_goes, .int f_goesMany, .int f_roundSteps, .ref q_line, .int f_lineMany, .ref q_text, .int f_length, .int o.2.1, .int o.2.2, .int f_errorAt, .ref q_orders, .int f_orderMany])), (q_text, .inl (g 1, 60, .inl a_text))] := by
  refine z_wr_start (by decide) (Nat.le_of_ble_eq_true rfl) ?_
  intro p e s m args below meth c Q A X hr hQ hA
  refine z_lv (lv' := [(0, .ref q_this)]) rfl ?_
  refine z_aload_n X 0 dX12_digit_0 rfl rfl ?_
  refine z_bipush X (48 : Int32) dX12_digit_1 (by decide) ?_
  refine z_bipush X (57 : Int32) dX12_digit_3 (by decide) ?_
  obtain ⟨o1, e2, h⟩ := bnd_p h
  refine z_wrV (rest := []) (q0 := 0) (ci := 12) (ws' := [(q_this, .inr (12, [.ref q_s, .ref q_before, .ref q_saved, .int f_isSaved, .ref q_past, .int f_pastMany, .int f_thrown, .int f_reason, .int f_detail, .int f_isRefused, .ref q_steps, .ref q_goes, .int f_goesMany, .int f_roundSteps, .ref q_line, .int f_lineMany, .ref q_text, .int f_length, .int o1.2.1, .int o1.2.2, .int f_errorAt, .ref q_orders, .int f_orderMany])), (q_text, .inl (g 1, 60, .inl a_text))]) (wr := []) (as := [q_this, q_text]) X k_X12_sign (c_X12_sign l D g q_this q_s q_before q_saved q_past q_steps q_goes q_line q_text q_orders (48 : Int32) (57 : Int32) f_isSaved f_pastMany f_thrown f_reason f_detail f_isRefused f_goesMany f_roundSteps f_lineMany f_length f_at f_isWrong f_errorAt f_orderMany a_text o1 e2) ql_X12_X12_sign dX12_digit_5 [0, 1] [] ⟨rfl, rfl, rfl, rfl, rfl, rfl, rfl, rfl⟩ rfl rfl rfl rfl rfl ⟨Nat.le_of_ble_eq_true rfl, Nat.le_of_ble_eq_true rfl, rfl, rfl, Nat.le_of_ble_eq_true rfl, Nat.le_of_ble_eq_true rfl⟩ (Nat.le_of_ble_eq_true rfl) ?_
  cases h
  exact z_iretW X hQ hA hr dX12_digit_8

def F_X12_number (f_length : Int32) (a_text : Nat → Int32) (f_at : Int32) (f_isWrong : Int32) : Option (Int32 × Int32 × Int32) :=
  bnd (F_X12_digit f_length a_text f_at f_isWrong) (fun o1 => bnd (F_X12_isHere (48 : Int32) (57 : Int32) f_length o1.2.1 o1.2.2 a_text) (fun o3 => brn (o3 = 0) (some (o1.1, o1.2.1, o1.2.2)) (bnd (F_X12_digit f_length a_text o1.2.1 o1.2.2) (fun o5 => some (((10 : Int32) * o1.1) + o5.1, o5.2.1, o5.2.2)))))
theorem dX12_number_0 : decode cX12_number 0 = .ok (.aload_n 0, 1) := by decide +kernel
theorem dX12_number_1 : decode cX12_number 1 = .ok (.invokevirtual 241, 3) := by decide +kernel
theorem dX12_number_4 : decode cX12_number 4 = .ok (.istore_n 1, 1) := by decide +kernel
theorem dX12_number_5 : decode cX12_number 5 = .ok (.aload_n 0, 1) := by decide +kernel
theorem dX12_number_6 : decode cX12_number 6 = .ok (.bipush 48, 2) := by decide +kernel
theorem dX12_number_8 : decode cX12_number 8 = .ok (.bipush 57, 2) := by decide +kernel
theorem dX12_number_10 : decode cX12_number 10 = .ok (.invokevirtual 233, 3) := by decide +kernel
theorem dX12_number_13 : decode cX12_number 13 = .ok (.ifCond .eq 15, 3) := by decide +kernel
theorem dX12_number_16 : decode cX12_number 16 = .ok (.bipush 10, 2) := by decide +kernel
theorem dX12_number_18 : decode cX12_number 18 = .ok (.iload_n 1, 1) := by decide +kernel
theorem dX12_number_19 : decode cX12_number 19 = .ok (.imul, 1) := by decide +kernel
theorem dX12_number_20 : decode cX12_number 20 = .ok (.aload_n 0, 1) := by decide +kernel
theorem dX12_number_21 : decode cX12_number 21 = .ok (.invokevirtual 241, 3) := by decide +kernel
theorem dX12_number_24 : decode cX12_number 24 = .ok (.iadd, 1) := by decide +kernel
theorem dX12_number_25 : decode cX12_number 25 = .ok (.goto 4, 3) := by decide +kernel
theorem dX12_number_28 : decode cX12_number 28 = .ok (.iload_n 1, 1) := by decide +kernel
theorem dX12_number_29 : decode cX12_number 29 = .ok (.ireturn, 1) := by decide +kernel
theorem k_X12_number : cardV yX12_number (Cond.code yX12_number cX12_number 2 (some .int)) 0 := ⟨⟨qi_X12_number, qv_X12_number⟩, qc_X12_number, qn_X12, by decide +kernel, by decide +kernel, by decide +kernel⟩
set_option maxHeartbeats 4000000 in
set_option maxRecDepth 100000 in
theorem c_X12_number (l : Launch) (D : va_G) (g : Nat → ClassId) (q_this q_s q_before q_saved q_past q_steps q_goes q_line q_text q_orders : Nat) (f_isSaved : Int32) (f_pastMany : Int32) (f_thrown : Int32) (f_reason : Int32) (f_detail : Int32) (f_isRefused : Int32) (f_goesMany : Int32) (f_roundSteps : Int32) (f_lineMany : Int32) (f_length : Int32) (f_at : Int32) (f_isWrong : Int32) (f_errorAt : Int32) (f_orderMany : Int32) (a_text : Nat → Int32) (o : Int32 × Int32 × Int32) (h : F_X12_number f_length a_text f_at f_isWrong = some o) : MW l yX12_number (Cond.code yX12_number cX12_number 2 (some .int)) { frames := 4, cells := 0, slots := 0, locals := 86 } D g [.ref q_this] [(q_this, .inr (12, [.ref q_s, .ref q_before, .ref q_saved, .int f_isSaved, .ref q_past, .int f_pastMany, .int f_thrown, .int f_reason, .int f_detail, .int f_isRefused, .ref q_steps, .ref q_goes, .int f_goesMany, .int f_roundSteps, .ref q_line, .int f_lineMany, .ref q_text, .int f_length, .int f_at, .int f_isWrong, .int f_errorAt, .ref q_orders, .int f_orderMany])), (q_text, .inl (g 1, 60, .inl a_text))] (some (.int o.1)) [(q_this, .inr (12, [.ref q_s, .ref q_before, .ref q_saved, .int f_isSaved, .ref q_past, .int f_pastMany, .int f_thrown, .int f_reason, .int f_detail, .int f_isRefused, .ref q_steps, .ref q_goes, .int f_goesMany, .int f_roundSteps, .ref q_line, .int f_lineMany, .ref q_text, .int f_length, .int o.2.1, .int o.2.2, .int f_errorAt, .ref q_orders, .int f_orderMany])), (q_text, .inl (g 1, 60, .inl a_text))] := by
  refine z_wr_start (by decide) (Nat.le_of_ble_eq_true rfl) ?_
  intro p e s m args below meth c Q A X hr hQ hA
  refine z_lv (lv' := [(0, .ref q_this)]) rfl ?_
  refine z_aload_n X 0 dX12_number_0 rfl rfl ?_
  obtain ⟨o1, e2, h⟩ := bnd_p h
  refine z_wrV (rest := []) (q0 := 0) (ci := 12) (ws' := [(q_this, .inr (12, [.ref q_s, .ref q_before, .ref q_saved, .int f_isSaved, .ref q_past, .int f_pastMany, .int f_thrown, .int f_reason, .int f_detail, .int f_isRefused, .ref q_steps, .ref q_goes, .int f_goesMany, .int f_roundSteps, .ref q_line, .int f_lineMany, .ref q_text, .int f_length, .int o1.2.1, .int o1.2.2, .int f_errorAt, .ref q_orders, .int f_orderMany])), (q_text, .inl (g 1, 60, .inl a_text))]) (wr := []) (as := [q_this, q_text]) X k_X12_digit (c_X12_digit l D g q_this q_s q_before q_saved q_past q_steps q_goes q_line q_text q_orders f_isSaved f_pastMany f_thrown f_reason f_detail f_isRefused f_goesMany f_roundSteps f_lineMany f_length f_at f_isWrong f_errorAt f_orderMany a_text o1 e2) ql_X12_X12_digit dX12_number_1 [0, 1] [] ⟨rfl, rfl, rfl, rfl, rfl, rfl, rfl, rfl⟩ rfl rfl rfl rfl rfl ⟨Nat.le_of_ble_eq_true rfl, Nat.le_of_ble_eq_true rfl, rfl, rfl, Nat.le_of_ble_eq_true rfl, Nat.le_of_ble_eq_true rfl⟩ (Nat.le_of_ble_eq_true rfl) ?_
  refine z_istore_n X [(1, .int o1.1), (0, .ref q_this)] dX12_number_4 rfl (by decide) rfl ?_
  refine z_aload_n X 1 dX12_number_5 rfl rfl ?_
  refine z_bipush X (48 : Int32) dX12_number_6 (by decide) ?_
  refine z_bipush X (57 : Int32) dX12_number_8 (by decide) ?_
  obtain ⟨o3, e4, h⟩ := bnd_p h
  refine z_rdV (rest := []) (q0 := 0) (ci := 12) X IW_P k_X12_isHere (c_X12_isHere l D g q_this q_s q_before q_saved q_past q_steps q_goes q_line q_text q_orders (48 : Int32) (57 : Int32) f_isSaved f_pastMany f_thrown f_reason f_detail f_isRefused f_goesMany f_roundSteps f_lineMany f_length o1.2.1 o1.2.2 f_errorAt f_orderMany a_text o3 e4) ql_X12_X12_isHere dX12_number_10 [0, 1] rfl rfl rfl rfl rfl rfl ⟨Nat.le_of_ble_eq_true rfl, Nat.le_of_ble_eq_true rfl, rfl, rfl, Nat.le_of_ble_eq_true rfl, Nat.le_of_ble_eq_true rfl⟩ (Nat.le_of_ble_eq_true rfl) ?_
  refine z_if_eq X 28 dX12_number_13 (by decide) h (fun _ h => ?_) (fun _ h => ?_)
  · refine z_iload_n X 0 dX12_number_28 rfl rfl ?_
    cases h
    exact z_iretW X hQ hA hr dX12_number_29
  · refine z_bipush X (10 : Int32) dX12_number_16 (by decide) ?_
    refine z_iload_n X 0 dX12_number_18 rfl rfl ?_
    refine z_imul X dX12_number_19 ?_
    refine z_aload_n X 1 dX12_number_20 rfl rfl ?_
    obtain ⟨o5, e6, h⟩ := bnd_p h
    refine z_wrV (rest := [.int ((10 : Int32) * o1.1)]) (q0 := 0) (ci := 12) (ws' := [(q_this, .inr (12, [.ref q_s, .ref q_before, .ref q_saved, .int f_isSaved, .ref q_past, .int f_pastMany, .int f_thrown, .int f_reason, .int f_detail, .int f_isRefused, .ref q_steps, .ref q_goes, .int f_goesMany, .int f_roundSteps, .ref q_line, .int f_lineMany, .ref q_text, .int f_length, .int o5.2.1, .int o5.2.2, .int f_errorAt, .ref q_orders, .int f_orderMany])), (q_text, .inl (g 1, 60, .inl a_text))]) (wr := []) (as := [q_this, q_text]) X k_X12_digit (c_X12_digit l D g q_this q_s q_before q_saved q_past q_steps q_goes q_line q_text q_orders f_isSaved f_pastMany f_thrown f_reason f_detail f_isRefused f_goesMany f_roundSteps f_lineMany f_length o1.2.1 o1.2.2 f_errorAt f_orderMany a_text o5 e6) ql_X12_X12_digit dX12_number_21 [0, 1] [] ⟨rfl, rfl, rfl, rfl, rfl, rfl, rfl, rfl⟩ rfl rfl rfl rfl rfl ⟨Nat.le_of_ble_eq_true rfl, Nat.le_of_ble_eq_true rfl, rfl, rfl, Nat.le_of_ble_eq_true rfl, Nat.le_of_ble_eq_true rfl⟩ (Nat.le_of_ble_eq_true rfl) ?_
    refine z_iadd X dX12_number_24 ?_
    refine z_goto X 29 dX12_number_25 (by decide) ?_
    cases h
    exact z_iretW X hQ hA hr dX12_number_29

def F_X12_does (p1 : Int32) (a_orders : Nat → Int32) (f_thrown : Int32) (f_reason : Int32) (f_detail : Int32) (f_isRefused : Int32) (a_s : Nat → Int32) : Option (Int32 × Int32 × Int32 × Int32 × (Nat → Int32)) :=
  grd (inb (((4 : Int32) * p1) + (1 : Int32)) 240) (grd (inb (((4 : Int32) * p1) + (2 : Int32)) 240) (grd (inb (((4 : Int32) * p1) + (3 : Int32)) 240) (grd (inb ((4 : Int32) * p1) 240) (brn ((a_orders ((4 : Int32) * p1).toNatClampNeg) = (98 : Int32)) (bnd (F_X12_doBlock (a_orders (((4 : Int32) * p1) + (1 : Int32)).toNatClampNeg) f_thrown f_reason f_detail f_isRefused a_s) (fun o2 => some (o2.2.1, o2.2.2.1, o2.2.2.2.1, o2.2.2.2.2.1, o2.2.2.2.2.2))) (brn ((a_orders ((4 : Int32) * p1).toNatClampNeg) = (101 : Int32)) (bnd (F_X12_doHall (a_orders (((4 : Int32) * p1) + (1 : Int32)).toNatClampNeg) (a_orders (((4 : Int32) * p1) + (2 : Int32)).toNatClampNeg) (a_orders (((4 : Int32) * p1) + (3 : Int32)).toNatClampNeg) f_thrown f_reason f_detail f_isRefused a_s) (fun o5 => some (o5.2.1, o5.2.2.1, o5.2.2.2.1, o5.2.2.2.2.1, o5.2.2.2.2.2))) (brn ((a_orders ((4 : Int32) * p1).toNatClampNeg) = (104 : Int32)) (bnd (F_X12_doHouse (a_orders (((4 : Int32) * p1) + (1 : Int32)).toNatClampNeg) (a_orders (((4 : Int32) * p1) + (2 : Int32)).toNatClampNeg) (a_orders (((4 : Int32) * p1) + (3 : Int32)).toNatClampNeg) f_thrown f_reason f_detail f_isRefused a_s) (fun o8 => some (o8.2.1, o8.2.2.1, o8.2.2.2.1, o8.2.2.2.2.1, o8.2.2.2.2.2))) (brn ((a_orders ((4 : Int32) * p1).toNatClampNeg) = (112 : Int32)) (bnd (F_X12_doPost (a_orders (((4 : Int32) * p1) + (1 : Int32)).toNatClampNeg) f_thrown f_reason f_detail f_isRefused a_s) (fun o11 => some (o11.2.1, o11.2.2.1, o11.2.2.2.1, o11.2.2.2.2.1, o11.2.2.2.2.2))) (brn ((a_orders ((4 : Int32) * p1).toNatClampNeg) = (114 : Int32)) (bnd (F_X12_doRing (a_orders (((4 : Int32) * p1) + (1 : Int32)).toNatClampNeg) (a_orders (((4 : Int32) * p1) + (2 : Int32)).toNatClampNeg) (a_orders (((4 : Int32) * p1) + (3 : Int32)).toNatClampNeg) f_thrown a_s) (fun o14 => some (o14.2.1, f_reason, f_detail, f_isRefused, o14.2.2))) (brn ((a_orders ((4 : Int32) * p1).toNatClampNeg) = (116 : Int32)) (bnd (F_X12_doTell (a_orders (((4 : Int32) * p1) + (1 : Int32)).toNatClampNeg) (a_orders (((4 : Int32) * p1) + (2 : Int32)).toNatClampNeg) f_thrown f_reason f_detail f_isRefused a_s) (fun o17 => some (o17.2.1, o17.2.2.1, o17.2.2.2.1, o17.2.2.2.2.1, o17.2.2.2.2.2))) (bnd (F_X12_doPass (a_orders (((4 : Int32) * p1) + (1 : Int32)).toNatClampNeg) f_thrown a_s) (fun o19 => some (o19.2.1, f_reason, f_detail, f_isRefused, o19.2.2))))))))))))
theorem dX12_does_0 : decode cX12_does 0 = .ok (.aload_n 0, 1) := by decide +kernel
theorem dX12_does_1 : decode cX12_does 1 = .ok (.getfield 39, 3) := by decide +kernel
theorem dX12_does_4 : decode cX12_does 4 = .ok (.iconst 4, 1) := by decide +kernel
theorem dX12_does_5 : decode cX12_does 5 = .ok (.iload_n 1, 1) := by decide +kernel
theorem dX12_does_6 : decode cX12_does 6 = .ok (.imul, 1) := by decide +kernel
theorem dX12_does_7 : decode cX12_does 7 = .ok (.iconst 1, 1) := by decide +kernel
theorem dX12_does_8 : decode cX12_does 8 = .ok (.iadd, 1) := by decide +kernel
theorem dX12_does_9 : decode cX12_does 9 = .ok (.iaload, 1) := by decide +kernel
theorem dX12_does_10 : decode cX12_does 10 = .ok (.istore_n 2, 1) := by decide +kernel
theorem dX12_does_11 : decode cX12_does 11 = .ok (.aload_n 0, 1) := by decide +kernel
theorem dX12_does_12 : decode cX12_does 12 = .ok (.getfield 39, 3) := by decide +kernel
theorem dX12_does_15 : decode cX12_does 15 = .ok (.iconst 4, 1) := by decide +kernel
theorem dX12_does_16 : decode cX12_does 16 = .ok (.iload_n 1, 1) := by decide +kernel
theorem dX12_does_17 : decode cX12_does 17 = .ok (.imul, 1) := by decide +kernel
theorem dX12_does_18 : decode cX12_does 18 = .ok (.iconst 2, 1) := by decide +kernel
theorem dX12_does_19 : decode cX12_does 19 = .ok (.iadd, 1) := by decide +kernel
theorem dX12_does_20 : decode cX12_does 20 = .ok (.iaload, 1) := by decide +kernel
theorem dX12_does_21 : decode cX12_does 21 = .ok (.istore_n 3, 1) := by decide +kernel
theorem dX12_does_22 : decode cX12_does 22 = .ok (.aload_n 0, 1) := by decide +kernel
theorem dX12_does_23 : decode cX12_does 23 = .ok (.getfield 39, 3) := by decide +kernel
theorem dX12_does_26 : decode cX12_does 26 = .ok (.iconst 4, 1) := by decide +kernel
theorem dX12_does_27 : decode cX12_does 27 = .ok (.iload_n 1, 1) := by decide +kernel
theorem dX12_does_28 : decode cX12_does 28 = .ok (.imul, 1) := by decide +kernel
theorem dX12_does_29 : decode cX12_does 29 = .ok (.iconst 3, 1) := by decide +kernel
theorem dX12_does_30 : decode cX12_does 30 = .ok (.iadd, 1) := by decide +kernel
theorem dX12_does_31 : decode cX12_does 31 = .ok (.iaload, 1) := by decide +kernel
theorem dX12_does_32 : decode cX12_does 32 = .ok (.istore 4, 2) := by decide +kernel
theorem dX12_does_34 : decode cX12_does 34 = .ok (.aload_n 0, 1) := by decide +kernel
theorem dX12_does_35 : decode cX12_does 35 = .ok (.getfield 39, 3) := by decide +kernel
theorem dX12_does_38 : decode cX12_does 38 = .ok (.iconst 4, 1) := by decide +kernel
theorem dX12_does_39 : decode cX12_does 39 = .ok (.iload_n 1, 1) := by decide +kernel
theorem dX12_does_40 : decode cX12_does 40 = .ok (.imul, 1) := by decide +kernel
theorem dX12_does_41 : decode cX12_does 41 = .ok (.iaload, 1) := by decide +kernel
theorem dX12_does_42 : decode cX12_does 42 = .ok (.tableswitch 160 98 116 #[103, 160, 160, 113, 160, 160, 90, 160, 160, 160, 160, 160, 160, 160, 139, 160, 126, 160, 149], 90) := by decide +kernel
theorem dX12_does_132 : decode cX12_does 132 = .ok (.aload_n 0, 1) := by decide +kernel
theorem dX12_does_133 : decode cX12_does 133 = .ok (.iload_n 2, 1) := by decide +kernel
theorem dX12_does_134 : decode cX12_does 134 = .ok (.iload_n 3, 1) := by decide +kernel
theorem dX12_does_135 : decode cX12_does 135 = .ok (.iload 4, 2) := by decide +kernel
theorem dX12_does_137 : decode cX12_does 137 = .ok (.invokevirtual 104, 3) := by decide +kernel
theorem dX12_does_140 : decode cX12_does 140 = .ok (.istore 5, 2) := by decide +kernel
theorem dX12_does_142 : decode cX12_does 142 = .ok (.goto 67, 3) := by decide +kernel
theorem dX12_does_145 : decode cX12_does 145 = .ok (.aload_n 0, 1) := by decide +kernel
theorem dX12_does_146 : decode cX12_does 146 = .ok (.iload_n 2, 1) := by decide +kernel
theorem dX12_does_147 : decode cX12_does 147 = .ok (.invokevirtual 116, 3) := by decide +kernel
theorem dX12_does_150 : decode cX12_does 150 = .ok (.istore 5, 2) := by decide +kernel
theorem dX12_does_152 : decode cX12_does 152 = .ok (.goto 57, 3) := by decide +kernel
theorem dX12_does_155 : decode cX12_does 155 = .ok (.aload_n 0, 1) := by decide +kernel
theorem dX12_does_156 : decode cX12_does 156 = .ok (.iload_n 2, 1) := by decide +kernel
theorem dX12_does_157 : decode cX12_does 157 = .ok (.iload_n 3, 1) := by decide +kernel
theorem dX12_does_158 : decode cX12_does 158 = .ok (.iload 4, 2) := by decide +kernel
theorem dX12_does_160 : decode cX12_does 160 = .ok (.invokevirtual 122, 3) := by decide +kernel
theorem dX12_does_163 : decode cX12_does 163 = .ok (.istore 5, 2) := by decide +kernel
theorem dX12_does_165 : decode cX12_does 165 = .ok (.goto 44, 3) := by decide +kernel
theorem dX12_does_168 : decode cX12_does 168 = .ok (.aload_n 0, 1) := by decide +kernel
theorem dX12_does_169 : decode cX12_does 169 = .ok (.iload_n 2, 1) := by decide +kernel
theorem dX12_does_170 : decode cX12_does 170 = .ok (.iload_n 3, 1) := by decide +kernel
theorem dX12_does_171 : decode cX12_does 171 = .ok (.iload 4, 2) := by decide +kernel
theorem dX12_does_173 : decode cX12_does 173 = .ok (.invokevirtual 167, 3) := by decide +kernel
theorem dX12_does_176 : decode cX12_does 176 = .ok (.istore 5, 2) := by decide +kernel
theorem dX12_does_178 : decode cX12_does 178 = .ok (.goto 31, 3) := by decide +kernel
theorem dX12_does_181 : decode cX12_does 181 = .ok (.aload_n 0, 1) := by decide +kernel
theorem dX12_does_182 : decode cX12_does 182 = .ok (.iload_n 2, 1) := by decide +kernel
theorem dX12_does_183 : decode cX12_does 183 = .ok (.invokevirtual 173, 3) := by decide +kernel
theorem dX12_does_186 : decode cX12_does 186 = .ok (.istore 5, 2) := by decide +kernel
theorem dX12_does_188 : decode cX12_does 188 = .ok (.goto 21, 3) := by decide +kernel
theorem dX12_does_191 : decode cX12_does 191 = .ok (.aload_n 0, 1) := by decide +kernel
theorem dX12_does_192 : decode cX12_does 192 = .ok (.iload_n 2, 1) := by decide +kernel
theorem dX12_does_193 : decode cX12_does 193 = .ok (.iload_n 3, 1) := by decide +kernel
theorem dX12_does_194 : decode cX12_does 194 = .ok (.invokevirtual 189, 3) := by decide +kernel
theorem dX12_does_197 : decode cX12_does 197 = .ok (.istore 5, 2) := by decide +kernel
theorem dX12_does_199 : decode cX12_does 199 = .ok (.goto 10, 3) := by decide +kernel
theorem dX12_does_202 : decode cX12_does 202 = .ok (.aload_n 0, 1) := by decide +kernel
theorem dX12_does_203 : decode cX12_does 203 = .ok (.iload_n 2, 1) := by decide +kernel
theorem dX12_does_204 : decode cX12_does 204 = .ok (.invokevirtual 128, 3) := by decide +kernel
theorem dX12_does_207 : decode cX12_does 207 = .ok (.istore 5, 2) := by decide +kernel
theorem dX12_does_209 : decode cX12_does 209 = .ok (.return_, 1) := by decide +kernel
theorem k_X12_does : cardV yX12_does (Cond.code yX12_does cX12_does 6 none) 1 := ⟨⟨qi_X12_does, qv_X12_does⟩, qc_X12_does, qn_X12, by decide +kernel, by decide +kernel, by decide +kernel⟩
set_option maxHeartbeats 4000000 in
set_option maxRecDepth 100000 in
theorem c_X12_does (l : Launch) (D : va_G) (g : Nat → ClassId) (q_this q_s q_before q_saved q_past q_steps q_goes q_line q_text q_orders : Nat) (p1 : Int32) (f_isSaved : Int32) (f_pastMany : Int32) (f_thrown : Int32) (f_reason : Int32) (f_detail : Int32) (f_isRefused : Int32) (f_goesMany : Int32) (f_roundSteps : Int32) (f_lineMany : Int32) (f_length : Int32) (f_at : Int32) (f_isWrong : Int32) (f_errorAt : Int32) (f_orderMany : Int32) (a_s : Nat → Int32) (a_orders : Nat → Int32) (o : Int32 × Int32 × Int32 × Int32 × (Nat → Int32)) (h : F_X12_does p1 a_orders f_thrown f_reason f_detail f_isRefused a_s = some o) : MW l yX12_does (Cond.code yX12_does cX12_does 6 none) { frames := 6, cells := 0, slots := 0, locals := 138 } D g [.ref q_this, .int p1] [(q_this, .inr (12, [.ref q_s, .ref q_before, .ref q_saved, .int f_isSaved, .ref q_past, .int f_pastMany, .int f_thrown, .int f_reason, .int f_detail, .int f_isRefused, .ref q_steps, .ref q_goes, .int f_goesMany, .int f_roundSteps, .ref q_line, .int f_lineMany, .ref q_text, .int f_length, .int f_at, .int f_isWrong, .int f_errorAt, .ref q_orders, .int f_orderMany])), (q_s, .inl (g 0, 147, .inl a_s)), (q_orders, .inl (g 0, 240, .inl a_orders))] none [(q_this, .inr (12, [.ref q_s, .ref q_before, .ref q_saved, .int f_isSaved, .ref q_past, .int f_pastMany, .int o.1, .int o.2.1, .int o.2.2.1, .int o.2.2.2.1, .ref q_steps, .ref q_goes, .int f_goesMany, .int f_roundSteps, .ref q_line, .int f_lineMany, .ref q_text, .int f_length, .int f_at, .int f_isWrong, .int f_errorAt, .ref q_orders, .int f_orderMany])), (q_s, .inl (g 0, 147, .inl o.2.2.2.2)), (q_orders, .inl (g 0, 240, .inl a_orders))] := by
  refine z_wr_start (by decide) (Nat.le_of_ble_eq_true rfl) ?_
  intro p e s m args below meth c Q A X hr hQ hA
  refine z_lv (lv' := [(0, .ref q_this), (1, .int p1)]) rfl ?_
  refine z_aload_n X 0 dX12_does_0 rfl rfl ?_
  refine z_get (q0 := 0) (k := 21) (ci := 12) X IW_P iw_X12 rfl qf_X12_X12_orders (by decide) dX12_does_1 rfl rfl ?_
  refine z_iconst X (4 : Int32) dX12_does_4 (by decide) ?_
  refine z_iload_n X 1 dX12_does_5 rfl rfl ?_
  refine z_imul X dX12_does_6 ?_
  refine z_iconst X (1 : Int32) dX12_does_7 (by decide) ?_
  refine z_iadd X dX12_does_8 ?_
  refine z_iald (q0 := 2) X IW_P dX12_does_9 rfl h (fun h => ?_)
  refine z_istore_n X [(2, .int (a_orders (((4 : Int32) * p1) + (1 : Int32)).toNatClampNeg)), (0, .ref q_this), (1, .int p1)] dX12_does_10 rfl (by decide) rfl ?_
  refine z_aload_n X 1 dX12_does_11 rfl rfl ?_
  refine z_get (q0 := 0) (k := 21) (ci := 12) X IW_P iw_X12 rfl qf_X12_X12_orders (by decide) dX12_does_12 rfl rfl ?_
  refine z_iconst X (4 : Int32) dX12_does_15 (by decide) ?_
  refine z_iload_n X 2 dX12_does_16 rfl rfl ?_
  refine z_imul X dX12_does_17 ?_
  refine z_iconst X (2 : Int32) dX12_does_18 (by decide) ?_
  refine z_iadd X dX12_does_19 ?_
  refine z_iald (q0 := 2) X IW_P dX12_does_20 rfl h (fun h => ?_)
  refine z_istore_n X [(3, .int (a_orders (((4 : Int32) * p1) + (2 : Int32)).toNatClampNeg)), (2, .int (a_orders (((4 : Int32) * p1) + (1 : Int32)).toNatClampNeg)), (0, .ref q_this), (1, .int p1)] dX12_does_21 rfl (by decide) rfl ?_
  refine z_aload_n X 2 dX12_does_22 rfl rfl ?_
  refine z_get (q0 := 0) (k := 21) (ci := 12) X IW_P iw_X12 rfl qf_X12_X12_orders (by decide) dX12_does_23 rfl rfl ?_
  refine z_iconst X (4 : Int32) dX12_does_26 (by decide) ?_
  refine z_iload_n X 3 dX12_does_27 rfl rfl ?_
  refine z_imul X dX12_does_28 ?_
  refine z_iconst X (3 : Int32) dX12_does_29 (by decide) ?_
  refine z_iadd X dX12_does_30 ?_
  refine z_iald (q0 := 2) X IW_P dX12_does_31 rfl h (fun h => ?_)
  refine z_istore X [(4, .int (a_orders (((4 : Int32) * p1) + (3 : Int32)).toNatClampNeg)), (3, .int (a_orders (((4 : Int32) * p1) + (2 : Int32)).toNatClampNeg)), (2, .int (a_orders (((4 : Int32) * p1) + (1 : Int32)).toNatClampNeg)), (0, .ref q_this), (1, .int p1)] dX12_does_32 (by decide) rfl ?_
  refine z_aload_n X 3 dX12_does_34 rfl rfl ?_
  refine z_get (q0 := 0) (k := 21) (ci := 12) X IW_P iw_X12 rfl qf_X12_X12_orders (by decide) dX12_does_35 rfl rfl ?_
  refine z_iconst X (4 : Int32) dX12_does_38 (by decide) ?_
  refine z_iload_n X 4 dX12_does_39 rfl rfl ?_
  refine z_imul X dX12_does_40 ?_
  refine z_iald (q0 := 2) X IW_P dX12_does_41 rfl h (fun h => ?_)
  by_cases n1 : (a_orders ((4 : Int32) * p1).toNatClampNeg) = (98 : Int32)
  · have h := brn_t h n1
    refine z_tin (off := 103) 145 X dX12_does_42 (sw_eq (k := 98) n1 (by decide)) (by decide) (by decide) (by decide) (by decide) ?_
    refine z_aload_n X 3 dX12_does_145 rfl rfl ?_
    refine z_iload_n X 2 dX12_does_146 rfl rfl ?_
    obtain ⟨o2, e3, h⟩ := bnd_p h
    refine z_wrV (rest := []) (q0 := 0) (ci := 12) (ws' := [(q_this, .inr (12, [.ref q_s, .ref q_before, .ref q_saved, .int f_isSaved, .ref q_past, .int f_pastMany, .int o2.2.1, .int o2.2.2.1, .int o2.2.2.2.1, .int o2.2.2.2.2.1, .ref q_steps, .ref q_goes, .int f_goesMany, .int f_roundSteps, .ref q_line, .int f_lineMany, .ref q_text, .int f_length, .int f_at, .int f_isWrong, .int f_errorAt, .ref q_orders, .int f_orderMany])), (q_s, .inl (g 0, 147, .inl o2.2.2.2.2.2)), (q_orders, .inl (g 0, 240, .inl a_orders))]) (wr := [(q_orders, .inl (g 0, 240, .inl a_orders))]) (as := [q_this, q_s, q_orders]) X k_X12_doBlock (c_X12_doBlock l D g q_this q_s q_before q_saved q_past q_steps q_goes q_line q_text q_orders (a_orders (((4 : Int32) * p1) + (1 : Int32)).toNatClampNeg) f_isSaved f_pastMany f_thrown f_reason f_detail f_isRefused f_goesMany f_roundSteps f_lineMany f_length f_at f_isWrong f_errorAt f_orderMany a_s o2 e3) ql_X12_X12_doBlock dX12_does_147 [0, 1] [2] ⟨rfl, rfl, rfl, rfl, rfl, rfl, rfl, rfl⟩ rfl rfl rfl rfl rfl ⟨Nat.le_of_ble_eq_true rfl, Nat.le_of_ble_eq_true rfl, rfl, rfl, Nat.le_of_ble_eq_true rfl, Nat.le_of_ble_eq_true rfl⟩ (Nat.le_of_ble_eq_true rfl) ?_
    refine z_istore X [(5, .int o2.1), (4, .int (a_orders (((4 : Int32) * p1) + (3 : Int32)).toNatClampNeg)), (3, .int (a_orders (((4 : Int32) * p1) + (2 : Int32)).toNatClampNeg)), (2, .int (a_orders (((4 : Int32) * p1) + (1 : Int32)).toNatClampNeg)), (0, .ref q_this), (1, .int p1)] dX12_does_150 (by decide) rfl ?_
    refine z_goto X 209 dX12_does_152 (by decide) ?_
    cases h
    exact z_vretW X hQ hA hr dX12_does_209
  have h := brn_f h n1
  by_cases n4 : (a_orders ((4 : Int32) * p1).toNatClampNeg) = (101 : Int32)
  · have h := brn_t h n4
    refine z_tin (off := 113) 155 X dX12_does_42 (sw_eq (k := 101) n4 (by decide)) (by decide) (by decide) (by decide) (by decide) ?_
    refine z_aload_n X 3 dX12_does_155 rfl rfl ?_
    refine z_iload_n X 2 dX12_does_156 rfl rfl ?_
    refine z_iload_n X 1 dX12_does_157 rfl rfl ?_
    refine z_iload X 0 dX12_does_158 rfl ?_
    obtain ⟨o5, e6, h⟩ := bnd_p h
    refine z_wrV (rest := []) (q0 := 0) (ci := 12) (ws' := [(q_this, .inr (12, [.ref q_s, .ref q_before, .ref q_saved, .int f_isSaved, .ref q_past, .int f_pastMany, .int o5.2.1, .int o5.2.2.1, .int o5.2.2.2.1, .int o5.2.2.2.2.1, .ref q_steps, .ref q_goes, .int f_goesMany, .int f_roundSteps, .ref q_line, .int f_lineMany, .ref q_text, .int f_length, .int f_at, .int f_isWrong, .int f_errorAt, .ref q_orders, .int f_orderMany])), (q_s, .inl (g 0, 147, .inl o5.2.2.2.2.2)), (q_orders, .inl (g 0, 240, .inl a_orders))]) (wr := [(q_orders, .inl (g 0, 240, .inl a_orders))]) (as := [q_this, q_s, q_orders]) X k_X12_doHall (c_X12_doHall l D g q_this q_s q_before q_saved q_past q_steps q_goes q_line q_text q_orders (a_orders (((4 : Int32) * p1) + (1 : Int32)).toNatClampNeg) (a_orders (((4 : Int32) * p1) + (2 : Int32)).toNatClampNeg) (a_orders (((4 : Int32) * p1) + (3 : Int32)).toNatClampNeg) f_isSaved f_pastMany f_thrown f_reason f_detail f_isRefused f_goesMany f_roundSteps f_lineMany f_length f_at f_isWrong f_errorAt f_orderMany a_s o5 e6) ql_X12_X12_doHall dX12_does_160 [0, 1] [2] ⟨rfl, rfl, rfl, rfl, rfl, rfl, rfl, rfl⟩ rfl rfl rfl rfl rfl ⟨Nat.le_of_ble_eq_true rfl, Nat.le_of_ble_eq_true rfl, rfl, rfl, Nat.le_of_ble_eq_true rfl, Nat.le_of_ble_eq_true rfl⟩ (Nat.le_of_ble_eq_true rfl) ?_
    refine z_istore X [(5, .int o5.1), (4, .int (a_orders (((4 : Int32) * p1) + (3 : Int32)).toNatClampNeg)), (3, .int (a_orders (((4 : Int32) * p1) + (2 : Int32)).toNatClampNeg)), (2, .int (a_orders (((4 : Int32) * p1) + (1 : Int32)).toNatClampNeg)), (0, .ref q_this), (1, .int p1)] dX12_does_163 (by decide) rfl ?_
    refine z_goto X 209 dX12_does_165 (by decide) ?_
    cases h
    exact z_vretW X hQ hA hr dX12_does_209
  have h := brn_f h n4
  by_cases n7 : (a_orders ((4 : Int32) * p1).toNatClampNeg) = (104 : Int32)
  · have h := brn_t h n7
    refine z_tin (off := 90) 132 X dX12_does_42 (sw_eq (k := 104) n7 (by decide)) (by decide) (by decide) (by decide) (by decide) ?_
    refine z_aload_n X 3 dX12_does_132 rfl rfl ?_
    refine z_iload_n X 2 dX12_does_133 rfl rfl ?_
    refine z_iload_n X 1 dX12_does_134 rfl rfl ?_
    refine z_iload X 0 dX12_does_135 rfl ?_
    obtain ⟨o8, e9, h⟩ := bnd_p h
    refine z_wrV (rest := []) (q0 := 0) (ci := 12) (ws' := [(q_this, .inr (12, [.ref q_s, .ref q_before, .ref q_saved, .int f_isSaved, .ref q_past, .int f_pastMany, .int o8.2.1, .int o8.2.2.1, .int o8.2.2.2.1, .int o8.2.2.2.2.1, .ref q_steps, .ref q_goes, .int f_goesMany, .int f_roundSteps, .ref q_line, .int f_lineMany, .ref q_text, .int f_length, .int f_at, .int f_isWrong, .int f_errorAt, .ref q_orders, .int f_orderMany])), (q_s, .inl (g 0, 147, .inl o8.2.2.2.2.2)), (q_orders, .inl (g 0, 240, .inl a_orders))]) (wr := [(q_orders, .inl (g 0, 240, .inl a_orders))]) (as := [q_this, q_s, q_orders]) X k_X12_doHouse (c_X12_doHouse l D g q_this q_s q_before q_saved q_past q_steps q_goes q_line q_text q_orders (a_orders (((4 : Int32) * p1) + (1 : Int32)).toNatClampNeg) (a_orders (((4 : Int32) * p1) + (2 : Int32)).toNatClampNeg) (a_orders (((4 : Int32) * p1) + (3 : Int32)).toNatClampNeg) f_isSaved f_pastMany f_thrown f_reason f_detail f_isRefused f_goesMany f_roundSteps f_lineMany f_length f_at f_isWrong f_errorAt f_orderMany a_s o8 e9) ql_X12_X12_doHouse dX12_does_137 [0, 1] [2] ⟨rfl, rfl, rfl, rfl, rfl, rfl, rfl, rfl⟩ rfl rfl rfl rfl rfl ⟨Nat.le_of_ble_eq_true rfl, Nat.le_of_ble_eq_true rfl, rfl, rfl, Nat.le_of_ble_eq_true rfl, Nat.le_of_ble_eq_true rfl⟩ (Nat.le_of_ble_eq_true rfl) ?_
    refine z_istore X [(5, .int o8.1), (4, .int (a_orders (((4 : Int32) * p1) + (3 : Int32)).toNatClampNeg)), (3, .int (a_orders (((4 : Int32) * p1) + (2 : Int32)).toNatClampNeg)), (2, .int (a_orders (((4 : Int32) * p1) + (1 : Int32)).toNatClampNeg)), (0, .ref q_this), (1, .int p1)] dX12_does_140 (by decide) rfl ?_
    refine z_goto X 209 dX12_does_142 (by decide) ?_
    cases h
    exact z_vretW X hQ hA hr dX12_does_209
  have h := brn_f h n7
  by_cases n10 : (a_orders ((4 : Int32) * p1).toNatClampNeg) = (112 : Int32)
  · have h := brn_t h n10
    refine z_tin (off := 139) 181 X dX12_does_42 (sw_eq (k := 112) n10 (by decide)) (by decide) (by decide) (by decide) (by decide) ?_
    refine z_aload_n X 3 dX12_does_181 rfl rfl ?_
    refine z_iload_n X 2 dX12_does_182 rfl rfl ?_
    obtain ⟨o11, e12, h⟩ := bnd_p h
    refine z_wrV (rest := []) (q0 := 0) (ci := 12) (ws' := [(q_this, .inr (12, [.ref q_s, .ref q_before, .ref q_saved, .int f_isSaved, .ref q_past, .int f_pastMany, .int o11.2.1, .int o11.2.2.1, .int o11.2.2.2.1, .int o11.2.2.2.2.1, .ref q_steps, .ref q_goes, .int f_goesMany, .int f_roundSteps, .ref q_line, .int f_lineMany, .ref q_text, .int f_length, .int f_at, .int f_isWrong, .int f_errorAt, .ref q_orders, .int f_orderMany])), (q_s, .inl (g 0, 147, .inl o11.2.2.2.2.2)), (q_orders, .inl (g 0, 240, .inl a_orders))]) (wr := [(q_orders, .inl (g 0, 240, .inl a_orders))]) (as := [q_this, q_s, q_orders]) X k_X12_doPost (c_X12_doPost l D g q_this q_s q_before q_saved q_past q_steps q_goes q_line q_text q_orders (a_orders (((4 : Int32) * p1) + (1 : Int32)).toNatClampNeg) f_isSaved f_pastMany f_thrown f_reason f_detail f_isRefused f_goesMany f_roundSteps f_lineMany f_length f_at f_isWrong f_errorAt f_orderMany a_s o11 e12) ql_X12_X12_doPost dX12_does_183 [0, 1] [2] ⟨rfl, rfl, rfl, rfl, rfl, rfl, rfl, rfl⟩ rfl rfl rfl rfl rfl ⟨Nat.le_of_ble_eq_true rfl, Nat.le_of_ble_eq_true rfl, rfl, rfl, Nat.le_of_ble_eq_true rfl, Nat.le_of_ble_eq_true rfl⟩ (Nat.le_of_ble_eq_true rfl) ?_
    refine z_istore X [(5, .int o11.1), (4, .int (a_orders (((4 : Int32) * p1) + (3 : Int32)).toNatClampNeg)), (3, .int (a_orders (((4 : Int32) * p1) + (2 : Int32)).toNatClampNeg)), (2, .int (a_orders (((4 : Int32) * p1) + (1 : Int32)).toNatClampNeg)), (0, .ref q_this), (1, .int p1)] dX12_does_186 (by decide) rfl ?_
    refine z_goto X 209 dX12_does_188 (by decide) ?_
    cases h
    exact z_vretW X hQ hA hr dX12_does_209
  have h := brn_f h n10
  by_cases n13 : (a_orders ((4 : Int32) * p1).toNatClampNeg) = (114 : Int32)
  · have h := brn_t h n13
    refine z_tin (off := 126) 168 X dX12_does_42 (sw_eq (k := 114) n13 (by decide)) (by decide) (by decide) (by decide) (by decide) ?_
    refine z_aload_n X 3 dX12_does_168 rfl rfl ?_
    refine z_iload_n X 2 dX12_does_169 rfl rfl ?_
    refine z_iload_n X 1 dX12_does_170 rfl rfl ?_
    refine z_iload X 0 dX12_does_171 rfl ?_
    obtain ⟨o14, e15, h⟩ := bnd_p h
    refine z_wrV (rest := []) (q0 := 0) (ci := 12) (ws' := [(q_this, .inr (12, [.ref q_s, .ref q_before, .ref q_saved, .int f_isSaved, .ref q_past, .int f_pastMany, .int o14.2.1, .int f_reason, .int f_detail, .int f_isRefused, .ref q_steps, .ref q_goes, .int f_goesMany, .int f_roundSteps, .ref q_line, .int f_lineMany, .ref q_text, .int f_length, .int f_at, .int f_isWrong, .int f_errorAt, .ref q_orders, .int f_orderMany])), (q_s, .inl (g 0, 147, .inl o14.2.2)), (q_orders, .inl (g 0, 240, .inl a_orders))]) (wr := [(q_orders, .inl (g 0, 240, .inl a_orders))]) (as := [q_this, q_s, q_orders]) X k_X12_doRing (c_X12_doRing l D g q_this q_s q_before q_saved q_past q_steps q_goes q_line q_text q_orders (a_orders (((4 : Int32) * p1) + (1 : Int32)).toNatClampNeg) (a_orders (((4 : Int32) * p1) + (2 : Int32)).toNatClampNeg) (a_orders (((4 : Int32) * p1) + (3 : Int32)).toNatClampNeg) f_isSaved f_pastMany f_thrown f_reason f_detail f_isRefused f_goesMany f_roundSteps f_lineMany f_length f_at f_isWrong f_errorAt f_orderMany a_s o14 e15) ql_X12_X12_doRing dX12_does_173 [0, 1] [2] ⟨rfl, rfl, rfl, rfl, rfl, rfl, rfl, rfl⟩ rfl rfl rfl rfl rfl ⟨Nat.le_of_ble_eq_true rfl, Nat.le_of_ble_eq_true rfl, rfl, rfl, Nat.le_of_ble_eq_true rfl, Nat.le_of_ble_eq_true rfl⟩ (Nat.le_of_ble_eq_true rfl) ?_
    refine z_istore X [(5, .int o14.1), (4, .int (a_orders (((4 : Int32) * p1) + (3 : Int32)).toNatClampNeg)), (3, .int (a_orders (((4 : Int32) * p1) + (2 : Int32)).toNatClampNeg)), (2, .int (a_orders (((4 : Int32) * p1) + (1 : Int32)).toNatClampNeg)), (0, .ref q_this), (1, .int p1)] dX12_does_176 (by decide) rfl ?_
    refine z_goto X 209 dX12_does_178 (by decide) ?_
    cases h
    exact z_vretW X hQ hA hr dX12_does_209
  have h := brn_f h n13
  by_cases n16 : (a_orders ((4 : Int32) * p1).toNatClampNeg) = (116 : Int32)
  · have h := brn_t h n16
    refine z_tin (off := 149) 191 X dX12_does_42 (sw_eq (k := 116) n16 (by decide)) (by decide) (by decide) (by decide) (by decide) ?_
    refine z_aload_n X 3 dX12_does_191 rfl rfl ?_
    refine z_iload_n X 2 dX12_does_192 rfl rfl ?_
    refine z_iload_n X 1 dX12_does_193 rfl rfl ?_
    obtain ⟨o17, e18, h⟩ := bnd_p h
    refine z_wrV (rest := []) (q0 := 0) (ci := 12) (ws' := [(q_this, .inr (12, [.ref q_s, .ref q_before, .ref q_saved, .int f_isSaved, .ref q_past, .int f_pastMany, .int o17.2.1, .int o17.2.2.1, .int o17.2.2.2.1, .int o17.2.2.2.2.1, .ref q_steps, .ref q_goes, .int f_goesMany, .int f_roundSteps, .ref q_line, .int f_lineMany, .ref q_text, .int f_length, .int f_at, .int f_isWrong, .int f_errorAt, .ref q_orders, .int f_orderMany])), (q_s, .inl (g 0, 147, .inl o17.2.2.2.2.2)), (q_orders, .inl (g 0, 240, .inl a_orders))]) (wr := [(q_orders, .inl (g 0, 240, .inl a_orders))]) (as := [q_this, q_s, q_orders]) X k_X12_doTell (c_X12_doTell l D g q_this q_s q_before q_saved q_past q_steps q_goes q_line q_text q_orders (a_orders (((4 : Int32) * p1) + (1 : Int32)).toNatClampNeg) (a_orders (((4 : Int32) * p1) + (2 : Int32)).toNatClampNeg) f_isSaved f_pastMany f_thrown f_reason f_detail f_isRefused f_goesMany f_roundSteps f_lineMany f_length f_at f_isWrong f_errorAt f_orderMany a_s o17 e18) ql_X12_X12_doTell dX12_does_194 [0, 1] [2] ⟨rfl, rfl, rfl, rfl, rfl, rfl, rfl, rfl⟩ rfl rfl rfl rfl rfl ⟨Nat.le_of_ble_eq_true rfl, Nat.le_of_ble_eq_true rfl, rfl, rfl, Nat.le_of_ble_eq_true rfl, Nat.le_of_ble_eq_true rfl⟩ (Nat.le_of_ble_eq_true rfl) ?_
    refine z_istore X [(5, .int o17.1), (4, .int (a_orders (((4 : Int32) * p1) + (3 : Int32)).toNatClampNeg)), (3, .int (a_orders (((4 : Int32) * p1) + (2 : Int32)).toNatClampNeg)), (2, .int (a_orders (((4 : Int32) * p1) + (1 : Int32)).toNatClampNeg)), (0, .ref q_this), (1, .int p1)] dX12_does_197 (by decide) rfl ?_
    refine z_goto X 209 dX12_does_199 (by decide) ?_
    cases h
    exact z_vretW X hQ hA hr dX12_does_209
  have h := brn_f h n16
  refine z_tdef 202 [98, 101, 104, 112, 114, 116] X dX12_does_42 (by decide) (by decide) (List.forall_mem_cons.mpr ⟨sw_ne n1 (by decide), List.forall_mem_cons.mpr ⟨sw_ne n4 (by decide), List.forall_mem_cons.mpr ⟨sw_ne n7 (by decide), List.forall_mem_cons.mpr ⟨sw_ne n10 (by decide), List.forall_mem_cons.mpr ⟨sw_ne n13 (by decide), List.forall_mem_cons.mpr ⟨sw_ne n16 (by decide), fun _ hk => absurd hk List.not_mem_nil⟩⟩⟩⟩⟩⟩) (by decide) ?_
  refine z_aload_n X 3 dX12_does_202 rfl rfl ?_
  refine z_iload_n X 2 dX12_does_203 rfl rfl ?_
  obtain ⟨o19, e20, h⟩ := bnd_p h
  refine z_wrV (rest := []) (q0 := 0) (ci := 12) (ws' := [(q_this, .inr (12, [.ref q_s, .ref q_before, .ref q_saved, .int f_isSaved, .ref q_past, .int f_pastMany, .int o19.2.1, .int f_reason, .int f_detail, .int f_isRefused, .ref q_steps, .ref q_goes, .int f_goesMany, .int f_roundSteps, .ref q_line, .int f_lineMany, .ref q_text, .int f_length, .int f_at, .int f_isWrong, .int f_errorAt, .ref q_orders, .int f_orderMany])), (q_s, .inl (g 0, 147, .inl o19.2.2)), (q_orders, .inl (g 0, 240, .inl a_orders))]) (wr := [(q_orders, .inl (g 0, 240, .inl a_orders))]) (as := [q_this, q_s, q_orders]) X k_X12_doPass (c_X12_doPass l D g q_this q_s q_before q_saved q_past q_steps q_goes q_line q_text q_orders (a_orders (((4 : Int32) * p1) + (1 : Int32)).toNatClampNeg) f_isSaved f_pastMany f_thrown f_reason f_detail f_isRefused f_goesMany f_roundSteps f_lineMany f_length f_at f_isWrong f_errorAt f_orderMany a_s o19 e20) ql_X12_X12_doPass dX12_does_204 [0, 1] [2] ⟨rfl, rfl, rfl, rfl, rfl, rfl, rfl, rfl⟩ rfl rfl rfl rfl rfl ⟨Nat.le_of_ble_eq_true rfl, Nat.le_of_ble_eq_true rfl, rfl, rfl, Nat.le_of_ble_eq_true rfl, Nat.le_of_ble_eq_true rfl⟩ (Nat.le_of_ble_eq_true rfl) ?_
  refine z_istore X [(5, .int o19.1), (4, .int (a_orders (((4 : Int32) * p1) + (3 : Int32)).toNatClampNeg)), (3, .int (a_orders (((4 : Int32) * p1) + (2 : Int32)).toNatClampNeg)), (2, .int (a_orders (((4 : Int32) * p1) + (1 : Int32)).toNatClampNeg)), (0, .ref q_this), (1, .int p1)] dX12_does_207 (by decide) rfl ?_
  cases h
  exact z_vretW X hQ hA hr dX12_does_209

def F_X12_errorPosition (f_errorAt : Int32) (f_thrown : Int32) : Option (Int32 × Int32) :=
  some (f_errorAt, (0 : Int32))
theorem dX12_errorPosition_0 : decode cX12_errorPosition 0 = .ok (.aload_n 0, 1) := by decide +kernel
theorem dX12_errorPosition_1 : decode cX12_errorPosition 1 = .ok (.iconst 0, 1) := by decide +kernel
theorem dX12_errorPosition_2 : decode cX12_errorPosition 2 = .ok (.putfield 42, 3) := by decide +kernel
theorem dX12_errorPosition_5 : decode cX12_errorPosition 5 = .ok (.aload_n 0, 1) := by decide +kernel
theorem dX12_errorPosition_6 : decode cX12_errorPosition 6 = .ok (.getfield 35, 3) := by decide +kernel
theorem dX12_errorPosition_9 : decode cX12_errorPosition 9 = .ok (.ireturn, 1) := by decide +kernel
theorem k_X12_errorPosition : cardV yX12_errorPosition (Cond.code yX12_errorPosition cX12_errorPosition 1 (some .int)) 0 := ⟨⟨qi_X12_errorPosition, qv_X12_errorPosition⟩, qc_X12_errorPosition, qn_X12, by decide +kernel, by decide +kernel, by decide +kernel⟩
set_option maxHeartbeats 4000000 in
set_option maxRecDepth 100000 in
theorem c_X12_errorPosition (l : Launch) (D : va_G) (g : Nat → ClassId) (q_this q_s q_before q_saved q_past q_steps q_goes q_line q_text q_orders : Nat) (f_isSaved : Int32) (f_pastMany : Int32) (f_thrown : Int32) (f_reason : Int32) (f_detail : Int32) (f_isRefused : Int32) (f_goesMany : Int32) (f_roundSteps : Int32) (f_lineMany : Int32) (f_length : Int32) (f_at : Int32) (f_isWrong : Int32) (f_errorAt : Int32) (f_orderMany : Int32) (o : Int32 × Int32) (h : F_X12_errorPosition f_errorAt f_thrown = some o) : MW l yX12_errorPosition (Cond.code yX12_errorPosition cX12_errorPosition 1 (some .int)) { frames := 0, cells := 0, slots := 0, locals := 0 } D g [.ref q_this] [(q_this, .inr (12, [.ref q_s, .ref q_before, .ref q_saved, .int f_isSaved, .ref q_past, .int f_pastMany, .int f_thrown, .int f_reason, .int f_detail, .int f_isRefused, .ref q_steps, .ref q_goes, .int f_goesMany, .int f_roundSteps, .ref q_line, .int f_lineMany, .ref q_text, .int f_length, .int f_at, .int f_isWrong, .int f_errorAt, .ref q_orders, .int f_orderMany]))] (some (.int o.1)) [(q_this, .inr (12, [.ref q_s, .ref q_before, .ref q_saved, .int f_isSaved, .ref q_past, .int f_pastMany, .int o.2, .int f_reason, .int f_detail, .int f_isRefused, .ref q_steps, .ref q_goes, .int f_goesMany, .int f_roundSteps, .ref q_line, .int f_lineMany, .ref q_text, .int f_length, .int f_at, .int f_isWrong, .int f_errorAt, .ref q_orders, .int f_orderMany]))] := by
  refine z_wr_start (by decide) (Nat.le_of_ble_eq_true rfl) ?_
  intro p e s m args below meth c Q A X hr hQ hA
  refine z_lv (lv' := [(0, .ref q_this)]) rfl ?_
  refine z_aload_n X 0 dX12_errorPosition_0 rfl rfl ?_
  refine z_iconst X (0 : Int32) dX12_errorPosition_1 (by decide) ?_
  refine z_put (q0 := 0) (k := 6) (ci := 12) (ws' := [(q_this, .inr (12, [.ref q_s, .ref q_before, .ref q_saved, .int f_isSaved, .ref q_past, .int f_pastMany, .int (0 : Int32), .int f_reason, .int f_detail, .int f_isRefused, .ref q_steps, .ref q_goes, .int f_goesMany, .int f_roundSteps, .ref q_line, .int f_lineMany, .ref q_text, .int f_length, .int f_at, .int f_isWrong, .int f_errorAt, .ref q_orders, .int f_orderMany]))]) X iw_X12 tyX12_ok nmX12 rfl qf_X12_X12_thrown (by decide) rfl rfl dX12_errorPosition_2 rfl rfl rfl (Nat.le_of_ble_eq_true rfl) rfl ?_
  refine z_aload_n X 0 dX12_errorPosition_5 rfl rfl ?_
  refine z_get (q0 := 0) (k := 20) (ci := 12) X IW_P iw_X12 rfl qf_X12_X12_errorAt (by decide) dX12_errorPosition_6 rfl rfl ?_
  cases h
  exact z_iretW X hQ hA hr dX12_errorPosition_9

def J_X12_telling_37 (a_s : Nat → Int32) (r4 : Int32 → Int32 → Option (Int32)) (t0 : Int32) (t1 : Int32) (x2 : Int32) : Option (Int32) :=
  r4 (t1 + t0) (x2 + 1)

def L_X12_telling_4 (a_s : Nat → Int32) : Nat → Int32 → Int32 → Option (Int32)
  | 0, _, _ => none
  | _n + 1, x1, x2 =>
    grd (inb (4 : Int32) 147) (brn ((a_s (4 : Int32).toNatClampNeg) ≤ x2) (some (x1)) (grd (inb (((139 : Int32) + ((2 : Int32) * x2)) + (1 : Int32)) 147) (brn ((a_s (((139 : Int32) + ((2 : Int32) * x2)) + (1 : Int32)).toNatClampNeg) < 0) (J_X12_telling_37 a_s (L_X12_telling_4 a_s _n) (0 : Int32) x1 x2) (J_X12_telling_37 a_s (L_X12_telling_4 a_s _n) (1 : Int32) x1 x2))))

def F_X12_telling (a_s : Nat → Int32) : Option (Int32) :=
  L_X12_telling_4 a_s 100 (0 : Int32) (0 : Int32)
theorem dX12_telling_0 : decode cX12_telling 0 = .ok (.iconst 0, 1) := by decide +kernel
theorem dX12_telling_1 : decode cX12_telling 1 = .ok (.istore_n 1, 1) := by decide +kernel
theorem dX12_telling_2 : decode cX12_telling 2 = .ok (.iconst 0, 1) := by decide +kernel
theorem dX12_telling_3 : decode cX12_telling 3 = .ok (.istore_n 2, 1) := by decide +kernel
theorem dX12_telling_4 : decode cX12_telling 4 = .ok (.iload_n 2, 1) := by decide +kernel
theorem dX12_telling_5 : decode cX12_telling 5 = .ok (.aload_n 0, 1) := by decide +kernel
theorem dX12_telling_6 : decode cX12_telling 6 = .ok (.getfield 9, 3) := by decide +kernel
theorem dX12_telling_9 : decode cX12_telling 9 = .ok (.iconst 4, 1) := by decide +kernel
theorem dX12_telling_10 : decode cX12_telling 10 = .ok (.iaload, 1) := by decide +kernel
theorem dX12_telling_11 : decode cX12_telling 11 = .ok (.if_icmp .ge 34, 3) := by decide +kernel
theorem dX12_telling_14 : decode cX12_telling 14 = .ok (.iload_n 1, 1) := by decide +kernel
theorem dX12_telling_15 : decode cX12_telling 15 = .ok (.aload_n 0, 1) := by decide +kernel
theorem dX12_telling_16 : decode cX12_telling 16 = .ok (.getfield 9, 3) := by decide +kernel
theorem dX12_telling_19 : decode cX12_telling 19 = .ok (.sipush 139, 3) := by decide +kernel
theorem dX12_telling_22 : decode cX12_telling 22 = .ok (.iconst 2, 1) := by decide +kernel
theorem dX12_telling_23 : decode cX12_telling 23 = .ok (.iload_n 2, 1) := by decide +kernel
theorem dX12_telling_24 : decode cX12_telling 24 = .ok (.imul, 1) := by decide +kernel
theorem dX12_telling_25 : decode cX12_telling 25 = .ok (.iadd, 1) := by decide +kernel
theorem dX12_telling_26 : decode cX12_telling 26 = .ok (.iconst 1, 1) := by decide +kernel
theorem dX12_telling_27 : decode cX12_telling 27 = .ok (.iadd, 1) := by decide +kernel
theorem dX12_telling_28 : decode cX12_telling 28 = .ok (.iaload, 1) := by decide +kernel
theorem dX12_telling_29 : decode cX12_telling 29 = .ok (.ifCond .lt 7, 3) := by decide +kernel
theorem dX12_telling_32 : decode cX12_telling 32 = .ok (.iconst 1, 1) := by decide +kernel
theorem dX12_telling_33 : decode cX12_telling 33 = .ok (.goto 4, 3) := by decide +kernel
theorem dX12_telling_36 : decode cX12_telling 36 = .ok (.iconst 0, 1) := by decide +kernel
theorem dX12_telling_37 : decode cX12_telling 37 = .ok (.iadd, 1) := by decide +kernel
theorem dX12_telling_38 : decode cX12_telling 38 = .ok (.istore_n 1, 1) := by decide +kernel
theorem dX12_telling_39 : decode cX12_telling 39 = .ok (.iinc 2 1, 3) := by decide +kernel
theorem dX12_telling_42 : decode cX12_telling 42 = .ok (.goto (-38), 3) := by decide +kernel
theorem dX12_telling_45 : decode cX12_telling 45 = .ok (.iload_n 1, 1) := by decide +kernel
theorem dX12_telling_46 : decode cX12_telling 46 = .ok (.ireturn, 1) := by decide +kernel
theorem k_X12_telling : cardV yX12_telling (Cond.code yX12_telling cX12_telling 3 (some .int)) 0 := ⟨⟨qi_X12_telling, qv_X12_telling⟩, qc_X12_telling, qn_X12, by decide +kernel, by decide +kernel, by decide +kernel⟩
set_option maxHeartbeats 4000000 in
set_option maxRecDepth 100000 in
theorem c_X12_telling (l : Launch) (D : va_G) (g : Nat → ClassId) (q_this q_s q_before q_saved q_past q_steps q_goes q_line q_text q_orders : Nat) (f_isSaved : Int32) (f_pastMany : Int32) (f_thrown : Int32) (f_reason : Int32) (f_detail : Int32) (f_isRefused : Int32) (f_goesMany : Int32) (f_roundSteps : Int32) (f_lineMany : Int32) (f_length : Int32) (f_at : Int32) (f_isWrong : Int32) (f_errorAt : Int32) (f_orderMany : Int32) (a_s : Nat → Int32) (o : Int32) (h : F_X12_telling a_s = some o) : MR l yX12_telling (Cond.code yX12_telling cX12_telling 3 (some .int)) { frames := 0, cells := 0, slots := 0, locals := 0 } D g [.ref q_this] [(q_this, .inr (12, [.ref q_s, .ref q_before, .ref q_saved, .int f_isSaved, .ref q_past, .int f_pastMany, .int f_thrown, .int f_reason, .int f_detail, .int f_isRefused, .ref q_steps, .ref q_goes, .int f_goesMany, .int f_roundSteps, .ref q_line, .int f_lineMany, .ref q_text, .int f_length, .int f_at, .int f_isWrong, .int f_errorAt, .ref q_orders, .int f_orderMany])), (q_s, .inl (g 0, 147, .inl a_s))] (some (.int o)) := by
  refine z_rd_start (by decide) (Nat.le_of_ble_eq_true rfl) ?_
  intro p e s m args below meth c Q X hr hQ
  refine z_lv (lv' := [(0, .ref q_this)]) rfl ?_
  have H4 : ∀ (n : Nat) (x1 : Int32) (x2 : Int32), L_X12_telling_4 a_s  n x1 x2 = some o → Z p l e { frames := 0, cells := 0, slots := 0, locals := 0 } s m args below meth c Q 3 0 0 (IR D [(q_this, .inr (12, [.ref q_s, .ref q_before, .ref q_saved, .int f_isSaved, .ref q_past, .int f_pastMany, .int f_thrown, .int f_reason, .int f_detail, .int f_isRefused, .ref q_steps, .ref q_goes, .int f_goesMany, .int f_roundSteps, .ref q_line, .int f_lineMany, .ref q_text, .int f_length, .int f_at, .int f_isWrong, .int f_errorAt, .ref q_orders, .int f_orderMany])), (q_s, .inl (g 0, 147, .inl a_s))] s) 4 [(0, .ref q_this), (1, .int x1), (2, .int x2)] [] := by
    intro n
    induction n with
    | zero => intro x1 x2 h; cases h
    | succ n4 ih4 =>
      intro x1 x2 h
      have H37 : ∀ (t0 : Int32) (t1 : Int32) (x2 : Int32), J_X12_telling_37 a_s (L_X12_telling_4 a_s n4) t0 t1 x2 = some o → Z p l e { frames := 0, cells := 0, slots := 0, locals := 0 } s m args below meth c Q 3 0 0 (IR D [(q_this, .inr (12, [.ref q_s, .ref q_before, .ref q_saved, .int f_isSaved, .ref q_past, .int f_pastMany, .int f_thrown, .int f_reason, .int f_detail, .int f_isRefused, .ref q_steps, .ref q_goes, .int f_goesMany, .int f_roundSteps, .ref q_line, .int f_lineMany, .ref q_text, .int f_length, .int f_at, .int f_isWrong, .int f_errorAt, .ref q_orders, .int f_orderMany])), (q_s, .inl (g 0, 147, .inl a_s))] s) 37 [(0, .ref q_this), (2, .int x2)] [.int t0, .int t1] := by
        intro t0 t1 x2 h
        refine z_iadd X dX12_telling_37 ?_
        refine z_istore_n X [(1, .int (t1 + t0)), (0, .ref q_this), (2, .int x2)] dX12_telling_38 rfl (by decide) rfl ?_
        refine z_iinc X 2 [(2, .int (x2 + 1)), (1, .int (t1 + t0)), (0, .ref q_this)] dX12_telling_39 rfl rfl (by decide) rfl ?_
        refine z_goto X 4 dX12_telling_42 (by decide) ?_
        refine z_sub (lv' := [(0, .ref q_this), (1, .int (t1 + t0)), (2, .int (x2 + 1))]) [2, 1, 0] rfl ?_
        exact ih4 (t1 + t0) (x2 + 1) h
      refine z_iload_n X 2 dX12_telling_4 rfl rfl ?_
      refine z_aload_n X 0 dX12_telling_5 rfl rfl ?_
      refine z_get (q0 := 0) (k := 0) (ci := 12) X IR_P iw_X12 rfl qf_X12_X12_s (by decide) dX12_telling_6 rfl rfl ?_
      refine z_iconst X (4 : Int32) dX12_telling_9 (by decide) ?_
      refine z_iald (q0 := 1) X IR_P dX12_telling_10 rfl h (fun h => ?_)
      refine z_icmp_ge X 45 dX12_telling_11 (by decide) h (fun _ h => ?_) (fun _ h => ?_)
      · refine z_iload_n X 1 dX12_telling_45 rfl rfl ?_
        exact z_iretR X hQ hr dX12_telling_46 h
      · refine z_iload_n X 1 dX12_telling_14 rfl rfl ?_
        refine z_aload_n X 0 dX12_telling_15 rfl rfl ?_
        refine z_get (q0 := 0) (k := 0) (ci := 12) X IR_P iw_X12 rfl qf_X12_X12_s (by decide) dX12_telling_16 rfl rfl ?_
        refine z_sipush X (139 : Int32) dX12_telling_19 (by decide) ?_
        refine z_iconst X (2 : Int32) dX12_telling_22 (by decide) ?_
        refine z_iload_n X 2 dX12_telling_23 rfl rfl ?_
        refine z_imul X dX12_telling_24 ?_
        refine z_iadd X dX12_telling_25 ?_
        refine z_iconst X (1 : Int32) dX12_telling_26 (by decide) ?_
        refine z_iadd X dX12_telling_27 ?_
        refine z_iald (q0 := 1) X IR_P dX12_telling_28 rfl h (fun h => ?_)
        refine z_if_lt X 36 dX12_telling_29 (by decide) h (fun _ h => ?_) (fun _ h => ?_)
        · refine z_iconst X (0 : Int32) dX12_telling_36 (by decide) ?_
          refine z_sub (lv' := [(0, .ref q_this), (2, .int x2)]) [0, 2] rfl ?_
          exact H37 (0 : Int32) x1 x2 h
        · refine z_iconst X (1 : Int32) dX12_telling_32 (by decide) ?_
          refine z_goto X 37 dX12_telling_33 (by decide) ?_
          refine z_sub (lv' := [(0, .ref q_this), (2, .int x2)]) [0, 2] rfl ?_
          exact H37 (1 : Int32) x1 x2 h
  refine z_iconst X (0 : Int32) dX12_telling_0 (by decide) ?_
  refine z_istore_n X [(1, .int (0 : Int32)), (0, .ref q_this)] dX12_telling_1 rfl (by decide) rfl ?_
  refine z_iconst X (0 : Int32) dX12_telling_2 (by decide) ?_
  refine z_istore_n X [(2, .int (0 : Int32)), (1, .int (0 : Int32)), (0, .ref q_this)] dX12_telling_3 rfl (by decide) rfl ?_
  refine z_sub (lv' := [(0, .ref q_this), (1, .int (0 : Int32)), (2, .int (0 : Int32))]) [2, 1, 0] rfl ?_
  exact H4 100 (0 : Int32) (0 : Int32) h

def L_X12_blocks_4 (a_s : Nat → Int32) : Nat → Int32 → Int32 → Option (Int32)
  | 0, _, _ => none
  | _n + 1, x1, x2 =>
    brn ((64 : Int32) ≤ x2) (some (x1)) (grd (inb ((13 : Int32) + x2) 147) (L_X12_blocks_4 a_s _n (x1 + (a_s ((13 : Int32) + x2).toNatClampNeg)) (x2 + 1)))

def F_X12_blocks (a_s : Nat → Int32) : Option (Int32) :=
  L_X12_blocks_4 a_s 100 (0 : Int32) (0 : Int32)
theorem dX12_blocks_0 : decode cX12_blocks 0 = .ok (.iconst 0, 1) := by decide +kernel
theorem dX12_blocks_1 : decode cX12_blocks 1 = .ok (.istore_n 1, 1) := by decide +kernel
theorem dX12_blocks_2 : decode cX12_blocks 2 = .ok (.iconst 0, 1) := by decide +kernel
theorem dX12_blocks_3 : decode cX12_blocks 3 = .ok (.istore_n 2, 1) := by decide +kernel
theorem dX12_blocks_4 : decode cX12_blocks 4 = .ok (.iload_n 2, 1) := by decide +kernel
theorem dX12_blocks_5 : decode cX12_blocks 5 = .ok (.bipush 64, 2) := by decide +kernel
theorem dX12_blocks_7 : decode cX12_blocks 7 = .ok (.if_icmp .ge 21, 3) := by decide +kernel
theorem dX12_blocks_10 : decode cX12_blocks 10 = .ok (.iload_n 1, 1) := by decide +kernel
theorem dX12_blocks_11 : decode cX12_blocks 11 = .ok (.aload_n 0, 1) := by decide +kernel
theorem dX12_blocks_12 : decode cX12_blocks 12 = .ok (.getfield 9, 3) := by decide +kernel
theorem dX12_blocks_15 : decode cX12_blocks 15 = .ok (.bipush 13, 2) := by decide +kernel
theorem dX12_blocks_17 : decode cX12_blocks 17 = .ok (.iload_n 2, 1) := by decide +kernel
theorem dX12_blocks_18 : decode cX12_blocks 18 = .ok (.iadd, 1) := by decide +kernel
theorem dX12_blocks_19 : decode cX12_blocks 19 = .ok (.iaload, 1) := by decide +kernel
theorem dX12_blocks_20 : decode cX12_blocks 20 = .ok (.iadd, 1) := by decide +kernel
theorem dX12_blocks_21 : decode cX12_blocks 21 = .ok (.istore_n 1, 1) := by decide +kernel
theorem dX12_blocks_22 : decode cX12_blocks 22 = .ok (.iinc 2 1, 3) := by decide +kernel
theorem dX12_blocks_25 : decode cX12_blocks 25 = .ok (.goto (-21), 3) := by decide +kernel
theorem dX12_blocks_28 : decode cX12_blocks 28 = .ok (.iload_n 1, 1) := by decide +kernel
theorem dX12_blocks_29 : decode cX12_blocks 29 = .ok (.ireturn, 1) := by decide +kernel
theorem k_X12_blocks : cardV yX12_blocks (Cond.code yX12_blocks cX12_blocks 3 (some .int)) 0 := ⟨⟨qi_X12_blocks, qv_X12_blocks⟩, qc_X12_blocks, qn_X12, by decide +kernel, by decide +kernel, by decide +kernel⟩
set_option maxHeartbeats 4000000 in
set_option maxRecDepth 100000 in
theorem c_X12_blocks (l : Launch) (D : va_G) (g : Nat → ClassId) (q_this q_s q_before q_saved q_past q_steps q_goes q_line q_text q_orders : Nat) (f_isSaved : Int32) (f_pastMany : Int32) (f_thrown : Int32) (f_reason : Int32) (f_detail : Int32) (f_isRefused : Int32) (f_goesMany : Int32) (f_roundSteps : Int32) (f_lineMany : Int32) (f_length : Int32) (f_at : Int32) (f_isWrong : Int32) (f_errorAt : Int32) (f_orderMany : Int32) (a_s : Nat → Int32) (o : Int32) (h : F_X12_blocks a_s = some o) : MR l yX12_blocks (Cond.code yX12_blocks cX12_blocks 3 (some .int)) { frames := 0, cells := 0, slots := 0, locals := 0 } D g [.ref q_this] [(q_this, .inr (12, [.ref q_s, .ref q_before, .ref q_saved, .int f_isSaved, .ref q_past, .int f_pastMany, .int f_thrown, .int f_reason, .int f_detail, .int f_isRefused, .ref q_steps, .ref q_goes, .int f_goesMany, .int f_roundSteps, .ref q_line, .int f_lineMany, .ref q_text, .int f_length, .int f_at, .int f_isWrong, .int f_errorAt, .ref q_orders, .int f_orderMany])), (q_s, .inl (g 0, 147, .inl a_s))] (some (.int o)) := by
  refine z_rd_start (by decide) (Nat.le_of_ble_eq_true rfl) ?_
  intro p e s m args below meth c Q X hr hQ
  refine z_lv (lv' := [(0, .ref q_this)]) rfl ?_
  have H4 : ∀ (n : Nat) (x1 : Int32) (x2 : Int32), L_X12_blocks_4 a_s  n x1 x2 = some o → Z p l e { frames := 0, cells := 0, slots := 0, locals := 0 } s m args below meth c Q 3 0 0 (IR D [(q_this, .inr (12, [.ref q_s, .ref q_before, .ref q_saved, .int f_isSaved, .ref q_past, .int f_pastMany, .int f_thrown, .int f_reason, .int f_detail, .int f_isRefused, .ref q_steps, .ref q_goes, .int f_goesMany, .int f_roundSteps, .ref q_line, .int f_lineMany, .ref q_text, .int f_length, .int f_at, .int f_isWrong, .int f_errorAt, .ref q_orders, .int f_orderMany])), (q_s, .inl (g 0, 147, .inl a_s))] s) 4 [(0, .ref q_this), (1, .int x1), (2, .int x2)] [] := by
    intro n
    induction n with
    | zero => intro x1 x2 h; cases h
    | succ n4 ih4 =>
      intro x1 x2 h
      refine z_iload_n X 2 dX12_blocks_4 rfl rfl ?_
      refine z_bipush X (64 : Int32) dX12_blocks_5 (by decide) ?_
      refine z_icmp_ge X 28 dX12_blocks_7 (by decide) h (fun _ h => ?_) (fun _ h => ?_)
      · refine z_iload_n X 1 dX12_blocks_28 rfl rfl ?_
        exact z_iretR X hQ hr dX12_blocks_29 h
      · refine z_iload_n X 1 dX12_blocks_10 rfl rfl ?_
        refine z_aload_n X 0 dX12_blocks_11 rfl rfl ?_
        refine z_get (q0 := 0) (k := 0) (ci := 12) X IR_P iw_X12 rfl qf_X12_X12_s (by decide) dX12_blocks_12 rfl rfl ?_
        refine z_bipush X (13 : Int32) dX12_blocks_15 (by decide) ?_
        refine z_iload_n X 2 dX12_blocks_17 rfl rfl ?_
        refine z_iadd X dX12_blocks_18 ?_
        refine z_iald (q0 := 1) X IR_P dX12_blocks_19 rfl h (fun h => ?_)
        refine z_iadd X dX12_blocks_20 ?_
        refine z_istore_n X [(1, .int (x1 + (a_s ((13 : Int32) + x2).toNatClampNeg))), (0, .ref q_this), (2, .int x2)] dX12_blocks_21 rfl (by decide) rfl ?_
        refine z_iinc X 2 [(2, .int (x2 + 1)), (1, .int (x1 + (a_s ((13 : Int32) + x2).toNatClampNeg))), (0, .ref q_this)] dX12_blocks_22 rfl rfl (by decide) rfl ?_
        refine z_goto X 4 dX12_blocks_25 (by decide) ?_
        refine z_sub (lv' := [(0, .ref q_this), (1, .int (x1 + (a_s ((13 : Int32) + x2).toNatClampNeg))), (2, .int (x2 + 1))]) [2, 1, 0] rfl ?_
        exact ih4 (x1 + (a_s ((13 : Int32) + x2).toNatClampNeg)) (x2 + 1) h
  refine z_iconst X (0 : Int32) dX12_blocks_0 (by decide) ?_
  refine z_istore_n X [(1, .int (0 : Int32)), (0, .ref q_this)] dX12_blocks_1 rfl (by decide) rfl ?_
  refine z_iconst X (0 : Int32) dX12_blocks_2 (by decide) ?_
  refine z_istore_n X [(2, .int (0 : Int32)), (1, .int (0 : Int32)), (0, .ref q_this)] dX12_blocks_3 rfl (by decide) rfl ?_
  refine z_sub (lv' := [(0, .ref q_this), (1, .int (0 : Int32)), (2, .int (0 : Int32))]) [2, 1, 0] rfl ?_
  exact H4 100 (0 : Int32) (0 : Int32) h

def J_X12_account_16 (p1 : Int32) (f_pastMany : Int32) (f_length : Int32) (a_s : Nat → Int32) (t0 : Int32) (f_thrown : Int32) : Option (Int32 × Int32) :=
  brn (t0 ≤ 0) (brn (p1 = (5 : Int32)) (bnd (F_X12_telling a_s) (fun o4 => some (o4, t0))) (brn (p1 = (6 : Int32)) (bnd (F_X12_blocks a_s) (fun o7 => some (o7, t0))) (brn (p1 = (7 : Int32)) (grd (inb (5 : Int32) 147) (some (a_s (5 : Int32).toNatClampNeg, t0))) (brn (p1 = (8 : Int32)) (grd (inb (6 : Int32) 147) (some (a_s (6 : Int32).toNatClampNeg, t0))) (brn (p1 = (9 : Int32)) (grd (inb (7 : Int32) 147) (some (a_s (7 : Int32).toNatClampNeg, t0))) (brn (p1 = (10 : Int32)) (grd (inb (8 : Int32) 147) (some ((a_s (8 : Int32).toNatClampNeg) - (1 : Int32), t0))) (brn (p1 = (11 : Int32)) (some (f_length, t0)) (brn (p1 = (12 : Int32)) (some (f_pastMany, t0)) (grd (inb p1 147) (some (a_s p1.toNatClampNeg, t0))))))))))) (some ((0 : Int32), t0))

def F_X12_account (p1 : Int32) (f_pastMany : Int32) (f_length : Int32) (a_s : Nat → Int32) (f_thrown : Int32) : Option (Int32 × Int32) :=
  bnd (F_X12_in p1 (0 : Int32) (12 : Int32)) (fun o1 => brn (o1 = 0) (J_X12_account_16 p1 f_pastMany f_length a_s (1 : Int32) f_thrown) (J_X12_account_16 p1 f_pastMany f_length a_s (0 : Int32) f_thrown))
theorem dX12_account_0 : decode cX12_account 0 = .ok (.aload_n 0, 1) := by decide +kernel
theorem dX12_account_1 : decode cX12_account 1 = .ok (.iload_n 1, 1) := by decide +kernel
theorem dX12_account_2 : decode cX12_account 2 = .ok (.iconst 0, 1) := by decide +kernel
theorem dX12_account_3 : decode cX12_account 3 = .ok (.bipush 12, 2) := by decide +kernel
theorem dX12_account_5 : decode cX12_account 5 = .ok (.invokestatic 64, 3) := by decide +kernel
theorem dX12_account_8 : decode cX12_account 8 = .ok (.ifCond .eq 7, 3) := by decide +kernel
theorem dX12_account_11 : decode cX12_account 11 = .ok (.iconst 0, 1) := by decide +kernel
theorem dX12_account_12 : decode cX12_account 12 = .ok (.goto 4, 3) := by decide +kernel
theorem dX12_account_15 : decode cX12_account 15 = .ok (.iconst 1, 1) := by decide +kernel
theorem dX12_account_16 : decode cX12_account 16 = .ok (.putfield 42, 3) := by decide +kernel
theorem dX12_account_19 : decode cX12_account 19 = .ok (.aload_n 0, 1) := by decide +kernel
theorem dX12_account_20 : decode cX12_account 20 = .ok (.getfield 42, 3) := by decide +kernel
theorem dX12_account_23 : decode cX12_account 23 = .ok (.ifCond .le 5, 3) := by decide +kernel
theorem dX12_account_26 : decode cX12_account 26 = .ok (.iconst 0, 1) := by decide +kernel
theorem dX12_account_27 : decode cX12_account 27 = .ok (.ireturn, 1) := by decide +kernel
theorem dX12_account_28 : decode cX12_account 28 = .ok (.iload_n 1, 1) := by decide +kernel
theorem dX12_account_29 : decode cX12_account 29 = .ok (.tableswitch 100 5 12 #[47, 52, 57, 64, 72, 80, 90, 95], 47) := by decide +kernel
theorem dX12_account_76 : decode cX12_account 76 = .ok (.aload_n 0, 1) := by decide +kernel
theorem dX12_account_77 : decode cX12_account 77 = .ok (.invokevirtual 263, 3) := by decide +kernel
theorem dX12_account_80 : decode cX12_account 80 = .ok (.ireturn, 1) := by decide +kernel
theorem dX12_account_81 : decode cX12_account 81 = .ok (.aload_n 0, 1) := by decide +kernel
theorem dX12_account_82 : decode cX12_account 82 = .ok (.invokevirtual 266, 3) := by decide +kernel
theorem dX12_account_85 : decode cX12_account 85 = .ok (.ireturn, 1) := by decide +kernel
theorem dX12_account_86 : decode cX12_account 86 = .ok (.aload_n 0, 1) := by decide +kernel
theorem dX12_account_87 : decode cX12_account 87 = .ok (.getfield 9, 3) := by decide +kernel
theorem dX12_account_90 : decode cX12_account 90 = .ok (.iconst 5, 1) := by decide +kernel
theorem dX12_account_91 : decode cX12_account 91 = .ok (.iaload, 1) := by decide +kernel
theorem dX12_account_92 : decode cX12_account 92 = .ok (.ireturn, 1) := by decide +kernel
theorem dX12_account_93 : decode cX12_account 93 = .ok (.aload_n 0, 1) := by decide +kernel
theorem dX12_account_94 : decode cX12_account 94 = .ok (.getfield 9, 3) := by decide +kernel
theorem dX12_account_97 : decode cX12_account 97 = .ok (.bipush 6, 2) := by decide +kernel
theorem dX12_account_99 : decode cX12_account 99 = .ok (.iaload, 1) := by decide +kernel
theorem dX12_account_100 : decode cX12_account 100 = .ok (.ireturn, 1) := by decide +kernel
theorem dX12_account_101 : decode cX12_account 101 = .ok (.aload_n 0, 1) := by decide +kernel
theorem dX12_account_102 : decode cX12_account 102 = .ok (.getfield 9, 3) := by decide +kernel
theorem dX12_account_105 : decode cX12_account 105 = .ok (.bipush 7, 2) := by decide +kernel
theorem dX12_account_107 : decode cX12_account 107 = .ok (.iaload, 1) := by decide +kernel
theorem dX12_account_108 : decode cX12_account 108 = .ok (.ireturn, 1) := by decide +kernel
theorem dX12_account_109 : decode cX12_account 109 = .ok (.aload_n 0, 1) := by decide +kernel
theorem dX12_account_110 : decode cX12_account 110 = .ok (.getfield 9, 3) := by decide +kernel
theorem dX12_account_113 : decode cX12_account 113 = .ok (.bipush 8, 2) := by decide +kernel
theorem dX12_account_115 : decode cX12_account 115 = .ok (.iaload, 1) := by decide +kernel
theorem dX12_account_116 : decode cX12_account 116 = .ok (.iconst 1, 1) := by decide +kernel
theorem dX12_account_117 : decode cX12_account 117 = .ok (.isub, 1) := by decide +kernel
theorem dX12_account_118 : decode cX12_account 118 = .ok (.ireturn, 1) := by decide +kernel
theorem dX12_account_119 : decode cX12_account 119 = .ok (.aload_n 0, 1) := by decide +kernel
theorem dX12_account_120 : decode cX12_account 120 = .ok (.getfield 225, 3) := by decide +kernel
theorem dX12_account_123 : decode cX12_account 123 = .ok (.ireturn, 1) := by decide +kernel
theorem dX12_account_124 : decode cX12_account 124 = .ok (.aload_n 0, 1) := by decide +kernel
theorem dX12_account_125 : decode cX12_account 125 = .ok (.getfield 51, 3) := by decide +kernel
theorem dX12_account_128 : decode cX12_account 128 = .ok (.ireturn, 1) := by decide +kernel
theorem dX12_account_129 : decode cX12_account 129 = .ok (.aload_n 0, 1) := by decide +kernel
theorem dX12_account_130 : decode cX12_account 130 = .ok (.getfield 9, 3) := by decide +kernel
theorem dX12_account_133 : decode cX12_account 133 = .ok (.iload_n 1, 1) := by decide +kernel
theorem dX12_account_134 : decode cX12_account 134 = .ok (.iaload, 1) := by decide +kernel
theorem dX12_account_135 : decode cX12_account 135 = .ok (.ireturn, 1) := by decide +kernel
theorem k_X12_account : cardV yX12_account (Cond.code yX12_account cX12_account 2 (some .int)) 1 := ⟨⟨qi_X12_account, qv_X12_account⟩, qc_X12_account, qn_X12, by decide +kernel, by decide +kernel, by decide +kernel⟩
set_option maxHeartbeats 4000000 in
set_option maxRecDepth 100000 in
theorem c_X12_account (l : Launch) (D : va_G) (g : Nat → ClassId) (q_this q_s q_before q_saved q_past q_steps q_goes q_line q_text q_orders : Nat) (p1 : Int32) (f_isSaved : Int32) (f_pastMany : Int32) (f_thrown : Int32) (f_reason : Int32) (f_detail : Int32) (f_isRefused : Int32) (f_goesMany : Int32) (f_roundSteps : Int32) (f_lineMany : Int32) (f_length : Int32) (f_at : Int32) (f_isWrong : Int32) (f_errorAt : Int32) (f_orderMany : Int32) (a_s : Nat → Int32) (o : Int32 × Int32) (h : F_X12_account p1 f_pastMany f_length a_s f_thrown = some o) : MW l yX12_account (Cond.code yX12_account cX12_account 2 (some .int)) { frames := 1, cells := 0, slots := 0, locals := 22 } D g [.ref q_this, .int p1] [(q_this, .inr (12, [.ref q_s, .ref q_before, .ref q_saved, .int f_isSaved, .ref q_past, .int f_pastMany, .int f_thrown, .int f_reason, .int f_detail, .int f_isRefused, .ref q_steps, .ref q_goes, .int f_goesMany, .int f_roundSteps, .ref q_line, .int f_lineMany, .ref q_text, .int f_length, .int f_at, .int f_isWrong, .int f_errorAt, .ref q_orders, .int f_orderMany])), (q_s, .inl (g 0, 147, .inl a_s))] (some (.int o.1)) [(q_this, .inr (12, [.ref q_s, .ref q_before, .ref q_saved, .int f_isSaved, .ref q_past, .int f_pastMany, .int o.2, .int f_reason, .int f_detail, .int f_isRefused, .ref q_steps, .ref q_goes, .int f_goesMany, .int f_roundSteps, .ref q_line, .int f_lineMany, .ref q_text, .int f_length, .int f_at, .int f_isWrong, .int f_errorAt, .ref q_orders, .int f_orderMany])), (q_s, .inl (g 0, 147, .inl a_s))] := by
  refine z_wr_start (by decide) (Nat.le_of_ble_eq_true rfl) ?_
  intro p e s m args below meth c Q A X hr hQ hA
  refine z_lv (lv' := [(0, .ref q_this), (1, .int p1)]) rfl ?_
  have H16 : ∀ (t0 : Int32) (f_thrown : Int32), J_X12_account_16 p1 f_pastMany f_length a_s t0 f_thrown = some o → Z p l e { frames := 1, cells := 0, slots := 0, locals := 22 } s m args below meth c Q 2 0 0 (IW D A s [(q_this, .inr (12, [.ref q_s, .ref q_before, .ref q_saved, .int f_isSaved, .ref q_past, .int f_pastMany, .int f_thrown, .int f_reason, .int f_detail, .int f_isRefused, .ref q_steps, .ref q_goes, .int f_goesMany, .int f_roundSteps, .ref q_line, .int f_lineMany, .ref q_text, .int f_length, .int f_at, .int f_isWrong, .int f_errorAt, .ref q_orders, .int f_orderMany])), (q_s, .inl (g 0, 147, .inl a_s))]) 16 [(0, .ref q_this), (1, .int p1)] [.int t0, .ref q_this] := by
    intro t0 f_thrown h
    refine z_put (q0 := 0) (k := 6) (ci := 12) (ws' := [(q_this, .inr (12, [.ref q_s, .ref q_before, .ref q_saved, .int f_isSaved, .ref q_past, .int f_pastMany, .int t0, .int f_reason, .int f_detail, .int f_isRefused, .ref q_steps, .ref q_goes, .int f_goesMany, .int f_roundSteps, .ref q_line, .int f_lineMany, .ref q_text, .int f_length, .int f_at, .int f_isWrong, .int f_errorAt, .ref q_orders, .int f_orderMany])), (q_s, .inl (g 0, 147, .inl a_s))]) X iw_X12 tyX12_ok nmX12 rfl qf_X12_X12_thrown (by decide) rfl rfl dX12_account_16 rfl rfl rfl (Nat.le_of_ble_eq_true rfl) rfl ?_
    refine z_aload_n X 0 dX12_account_19 rfl rfl ?_
    refine z_get (q0 := 0) (k := 6) (ci := 12) X IW_P iw_X12 rfl qf_X12_X12_thrown (by decide) dX12_account_20 rfl rfl ?_
    refine z_if_le X 28 dX12_account_23 (by decide) h (fun _ h => ?_) (fun _ h => ?_)
    · refine z_iload_n X 1 dX12_account_28 rfl rfl ?_
      by_cases n3 : p1 = (5 : Int32)
      · have h := brn_t h n3
        refine z_tin (off := 47) 76 X dX12_account_29 (sw_eq (k := 5) n3 (by decide)) (by decide) (by decide) (by decide) (by decide) ?_
        refine z_aload_n X 0 dX12_account_76 rfl rfl ?_
        obtain ⟨o4, e5, h⟩ := bnd_p h
        refine z_rdV (rest := []) (q0 := 0) (ci := 12) X IW_P k_X12_telling (c_X12_telling l D g q_this q_s q_before q_saved q_past q_steps q_goes q_line q_text q_orders f_isSaved f_pastMany t0 f_reason f_detail f_isRefused f_goesMany f_roundSteps f_lineMany f_length f_at f_isWrong f_errorAt f_orderMany a_s o4 e5) ql_X12_X12_telling dX12_account_77 [0, 1] rfl rfl rfl rfl rfl rfl ⟨Nat.le_of_ble_eq_true rfl, Nat.le_of_ble_eq_true rfl, rfl, rfl, Nat.le_of_ble_eq_true rfl, Nat.le_of_ble_eq_true rfl⟩ (Nat.le_of_ble_eq_true rfl) ?_
        cases h
        exact z_iretW X hQ hA hr dX12_account_80
      have h := brn_f h n3
      by_cases n6 : p1 = (6 : Int32)
      · have h := brn_t h n6
        refine z_tin (off := 52) 81 X dX12_account_29 (sw_eq (k := 6) n6 (by decide)) (by decide) (by decide) (by decide) (by decide) ?_
        refine z_aload_n X 0 dX12_account_81 rfl rfl ?_
        obtain ⟨o7, e8, h⟩ := bnd_p h
        refine z_rdV (rest := []) (q0 := 0) (ci := 12) X IW_P k_X12_blocks (c_X12_blocks l D g q_this q_s q_before q_saved q_past q_steps q_goes q_line q_text q_orders f_isSaved f_pastMany t0 f_reason f_detail f_isRefused f_goesMany f_roundSteps f_lineMany f_length f_at f_isWrong f_errorAt f_orderMany a_s o7 e8) ql_X12_X12_blocks dX12_account_82 [0, 1] rfl rfl rfl rfl rfl rfl ⟨Nat.le_of_ble_eq_true rfl, Nat.le_of_ble_eq_true rfl, rfl, rfl, Nat.le_of_ble_eq_true rfl, Nat.le_of_ble_eq_true rfl⟩ (Nat.le_of_ble_eq_true rfl) ?_
        cases h
        exact z_iretW X hQ hA hr dX12_account_85
      have h := brn_f h n6
      by_cases n9 : p1 = (7 : Int32)
      · have h := brn_t h n9
        refine z_tin (off := 57) 86 X dX12_account_29 (sw_eq (k := 7) n9 (by decide)) (by decide) (by decide) (by decide) (by decide) ?_
        refine z_aload_n X 0 dX12_account_86 rfl rfl ?_
        refine z_get (q0 := 0) (k := 0) (ci := 12) X IW_P iw_X12 rfl qf_X12_X12_s (by decide) dX12_account_87 rfl rfl ?_
        refine z_iconst X (5 : Int32) dX12_account_90 (by decide) ?_
        refine z_iald (q0 := 1) X IW_P dX12_account_91 rfl h (fun h => ?_)
        cases h
        exact z_iretW X hQ hA hr dX12_account_92
      have h := brn_f h n9
      by_cases n10 : p1 = (8 : Int32)
      · have h := brn_t h n10
        refine z_tin (off := 64) 93 X dX12_account_29 (sw_eq (k := 8) n10 (by decide)) (by decide) (by decide) (by decide) (by decide) ?_
        refine z_aload_n X 0 dX12_account_93 rfl rfl ?_
        refine z_get (q0 := 0) (k := 0) (ci := 12) X IW_P iw_X12 rfl qf_X12_X12_s (by decide) dX12_account_94 rfl rfl ?_
        refine z_bipush X (6 : Int32) dX12_account_97 (by decide) ?_
        refine z_iald (q0 := 1) X IW_P dX12_account_99 rfl h (fun h => ?_)
        cases h
        exact z_iretW X hQ hA hr dX12_account_100
      have h := brn_f h n10
      by_cases n11 : p1 = (9 : Int32)
      · have h := brn_t h n11
        refine z_tin (off := 72) 101 X dX12_account_29 (sw_eq (k := 9) n11 (by decide)) (by decide) (by decide) (by decide) (by decide) ?_
        refine z_aload_n X 0 dX12_account_101 rfl rfl ?_
        refine z_get (q0 := 0) (k := 0) (ci := 12) X IW_P iw_X12 rfl qf_X12_X12_s (by decide) dX12_account_102 rfl rfl ?_
        refine z_bipush X (7 : Int32) dX12_account_105 (by decide) ?_
        refine z_iald (q0 := 1) X IW_P dX12_account_107 rfl h (fun h => ?_)
        cases h
        exact z_iretW X hQ hA hr dX12_account_108
      have h := brn_f h n11
      by_cases n12 : p1 = (10 : Int32)
      · have h := brn_t h n12
        refine z_tin (off := 80) 109 X dX12_account_29 (sw_eq (k := 10) n12 (by decide)) (by decide) (by decide) (by decide) (by decide) ?_
        refine z_aload_n X 0 dX12_account_109 rfl rfl ?_
        refine z_get (q0 := 0) (k := 0) (ci := 12) X IW_P iw_X12 rfl qf_X12_X12_s (by decide) dX12_account_110 rfl rfl ?_
        refine z_bipush X (8 : Int32) dX12_account_113 (by decide) ?_
        refine z_iald (q0 := 1) X IW_P dX12_account_115 rfl h (fun h => ?_)
        refine z_iconst X (1 : Int32) dX12_account_116 (by decide) ?_
        refine z_isub X dX12_account_117 ?_
        cases h
        exact z_iretW X hQ hA hr dX12_account_118
      have h := brn_f h n12
      by_cases n13 : p1 = (11 : Int32)
      · have h := brn_t h n13
        refine z_tin (off := 90) 119 X dX12_account_29 (sw_eq (k := 11) n13 (by decide)) (by decide) (by decide) (by decide) (by decide) ?_
        refine z_aload_n X 0 dX12_account_119 rfl rfl ?_
        refine z_get (q0 := 0) (k := 17) (ci := 12) X IW_P iw_X12 rfl qf_X12_X12_length (by decide) dX12_account_120 rfl rfl ?_
        cases h
        exact z_iretW X hQ hA hr dX12_account_123
      have h := brn_f h n13
      by_cases n14 : p1 = (12 : Int32)
      · have h := brn_t h n14
        refine z_tin (off := 95) 124 X dX12_account_29 (sw_eq (k := 12) n14 (by decide)) (by decide) (by decide) (by decide) (by decide) ?_
        refine z_aload_n X 0 dX12_account_124 rfl rfl ?_
        refine z_get (q0 := 0) (k := 5) (ci := 12) X IW_P iw_X12 rfl qf_X12_X12_pastMany (by decide) dX12_account_125 rfl rfl ?_
        cases h
        exact z_iretW X hQ hA hr dX12_account_128
      have h := brn_f h n14
      refine z_tdef 129 [5, 6, 7, 8, 9, 10, 11, 12] X dX12_account_29 (by decide) (by decide) (List.forall_mem_cons.mpr ⟨sw_ne n3 (by decide), List.forall_mem_cons.mpr ⟨sw_ne n6 (by decide), List.forall_mem_cons.mpr ⟨sw_ne n9 (by decide), List.forall_mem_cons.mpr ⟨sw_ne n10 (by decide), List.forall_mem_cons.mpr ⟨sw_ne n11 (by decide), List.forall_mem_cons.mpr ⟨sw_ne n12 (by decide), List.forall_mem_cons.mpr ⟨sw_ne n13 (by decide), List.forall_mem_cons.mpr ⟨sw_ne n14 (by decide), fun _ hk => absurd hk List.not_mem_nil⟩⟩⟩⟩⟩⟩⟩⟩) (by decide) ?_
      refine z_aload_n X 0 dX12_account_129 rfl rfl ?_
      refine z_get (q0 := 0) (k := 0) (ci := 12) X IW_P iw_X12 rfl qf_X12_X12_s (by decide) dX12_account_130 rfl rfl ?_
      refine z_iload_n X 1 dX12_account_133 rfl rfl ?_
      refine z_iald (q0 := 1) X IW_P dX12_account_134 rfl h (fun h => ?_)
      cases h
      exact z_iretW X hQ hA hr dX12_account_135
    · refine z_iconst X (0 : Int32) dX12_account_26 (by decide) ?_
      cases h
      exact z_iretW X hQ hA hr dX12_account_27
  refine z_aload_n X 0 dX12_account_0 rfl rfl ?_
  refine z_iload_n X 1 dX12_account_1 rfl rfl ?_
  refine z_iconst X (0 : Int32) dX12_account_2 (by decide) ?_
  refine z_bipush X (12 : Int32) dX12_account_3 (by decide) ?_
  obtain ⟨o1, e2, h⟩ := bnd_p h
  refine z_rdS (rest := [.ref q_this]) X IW_P k_X12_in (c_X12_in l D g p1 (0 : Int32) (12 : Int32) o1 e2) ql_X12_X12_in dX12_account_5 [] rfl rfl rfl ⟨Nat.le_of_ble_eq_true rfl, Nat.le_of_ble_eq_true rfl, rfl, rfl, Nat.le_of_ble_eq_true rfl, Nat.le_of_ble_eq_true rfl⟩ (Nat.le_of_ble_eq_true rfl) ?_
  refine z_if_eq X 15 dX12_account_8 (by decide) h (fun _ h => ?_) (fun _ h => ?_)
  · refine z_iconst X (1 : Int32) dX12_account_15 (by decide) ?_
    exact H16 (1 : Int32) f_thrown h
  · refine z_iconst X (0 : Int32) dX12_account_11 (by decide) ?_
    refine z_goto X 16 dX12_account_12 (by decide) ?_
    exact H16 (0 : Int32) f_thrown h

def F_X12_isWell (f_thrown : Int32) : Option (Int32 × Int32) :=
  some ((1 : Int32), (0 : Int32))
theorem dX12_isWell_0 : decode cX12_isWell 0 = .ok (.aload_n 0, 1) := by decide +kernel
theorem dX12_isWell_1 : decode cX12_isWell 1 = .ok (.iconst 0, 1) := by decide +kernel
theorem dX12_isWell_2 : decode cX12_isWell 2 = .ok (.putfield 42, 3) := by decide +kernel
theorem dX12_isWell_5 : decode cX12_isWell 5 = .ok (.iconst 1, 1) := by decide +kernel
theorem dX12_isWell_6 : decode cX12_isWell 6 = .ok (.ireturn, 1) := by decide +kernel
theorem k_X12_isWell : cardV yX12_isWell (Cond.code yX12_isWell cX12_isWell 1 (some .boolean)) 0 := ⟨⟨qi_X12_isWell, qv_X12_isWell⟩, qc_X12_isWell, qn_X12, by decide +kernel, by decide +kernel, by decide +kernel⟩
set_option maxHeartbeats 4000000 in
set_option maxRecDepth 100000 in
theorem c_X12_isWell (l : Launch) (D : va_G) (g : Nat → ClassId) (q_this q_s q_before q_saved q_past q_steps q_goes q_line q_text q_orders : Nat) (f_isSaved : Int32) (f_pastMany : Int32) (f_thrown : Int32) (f_reason : Int32) (f_detail : Int32) (f_isRefused : Int32) (f_goesMany : Int32) (f_roundSteps : Int32) (f_lineMany : Int32) (f_length : Int32) (f_at : Int32) (f_isWrong : Int32) (f_errorAt : Int32) (f_orderMany : Int32) (o : Int32 × Int32) (h : F_X12_isWell f_thrown = some o) : MW l yX12_isWell (Cond.code yX12_isWell cX12_isWell 1 (some .boolean)) { frames := 0, cells := 0, slots := 0, locals := 0 } D g [.ref q_this] [(q_this, .inr (12, [.ref q_s, .ref q_before, .ref q_saved, .int f_isSaved, .ref q_past, .int f_pastMany, .int f_thrown, .int f_reason, .int f_detail, .int f_isRefused, .ref q_steps, .ref q_goes, .int f_goesMany, .int f_roundSteps, .ref q_line, .int f_lineMany, .ref q_text, .int f_length, .int f_at, .int f_isWrong, .int f_errorAt, .ref q_orders, .int f_orderMany]))] (some (.int o.1)) [(q_this, .inr (12, [.ref q_s, .ref q_before, .ref q_saved, .int f_isSaved, .ref q_past, .int f_pastMany, .int o.2, .int f_reason, .int f_detail, .int f_isRefused, .ref q_steps, .ref q_goes, .int f_goesMany, .int f_roundSteps, .ref q_line, .int f_lineMany, .ref q_text, .int f_length, .int f_at, .int f_isWrong, .int f_errorAt, .ref q_orders, .int f_orderMany]))] := by
  refine z_wr_start (by decide) (Nat.le_of_ble_eq_true rfl) ?_
  intro p e s m args below meth c Q A X hr hQ hA
  refine z_lv (lv' := [(0, .ref q_this)]) rfl ?_
  refine z_aload_n X 0 dX12_isWell_0 rfl rfl ?_
  refine z_iconst X (0 : Int32) dX12_isWell_1 (by decide) ?_
  refine z_put (q0 := 0) (k := 6) (ci := 12) (ws' := [(q_this, .inr (12, [.ref q_s, .ref q_before, .ref q_saved, .int f_isSaved, .ref q_past, .int f_pastMany, .int (0 : Int32), .int f_reason, .int f_detail, .int f_isRefused, .ref q_steps, .ref q_goes, .int f_goesMany, .int f_roundSteps, .ref q_line, .int f_lineMany, .ref q_text, .int f_length, .int f_at, .int f_isWrong, .int f_errorAt, .ref q_orders, .int f_orderMany]))]) X iw_X12 tyX12_ok nmX12 rfl qf_X12_X12_thrown (by decide) rfl rfl dX12_isWell_2 rfl rfl rfl (Nat.le_of_ble_eq_true rfl) rfl ?_
  refine z_iconst X (1 : Int32) dX12_isWell_5 (by decide) ?_
  cases h
  exact z_zretW X hQ hA hr dX12_isWell_6 rfl

def J_X12_undo_13 (a_past : Nat → Int32) (t0 : Int32) (f_pastMany : Int32) (f_thrown : Int32) (a_s : Nat → Int32) : Option (Int32 × Int32 × Int32 × (Nat → Int32)) :=
  brn (t0 ≤ 0) (grd (cpyok ((147 : Int32) * (f_pastMany - (1 : Int32))) (0 : Int32) (147 : Int32) 1176 147) (some ((f_pastMany - (1 : Int32)), (f_pastMany - (1 : Int32)), t0, (va_cpy a_past a_s ((147 : Int32) * (f_pastMany - (1 : Int32))).toNatClampNeg (0 : Int32).toNatClampNeg (147 : Int32).toNatClampNeg)))) (some ((0 : Int32), f_pastMany, t0, a_s))

def F_X12_undo (a_past : Nat → Int32) (f_pastMany : Int32) (f_thrown : Int32) (a_s : Nat → Int32) : Option (Int32 × Int32 × Int32 × (Nat → Int32)) :=
  brn (f_pastMany = 0) (J_X12_undo_13 a_past (1 : Int32) f_pastMany f_thrown a_s) (J_X12_undo_13 a_past (0 : Int32) f_pastMany f_thrown a_s)
theorem dX12_undo_0 : decode cX12_undo 0 = .ok (.aload_n 0, 1) := by decide +kernel
theorem dX12_undo_1 : decode cX12_undo 1 = .ok (.aload_n 0, 1) := by decide +kernel
theorem dX12_undo_2 : decode cX12_undo 2 = .ok (.getfield 51, 3) := by decide +kernel
theorem dX12_undo_5 : decode cX12_undo 5 = .ok (.ifCond .ne 7, 3) := by decide +kernel
theorem dX12_undo_8 : decode cX12_undo 8 = .ok (.iconst 1, 1) := by decide +kernel
theorem dX12_undo_9 : decode cX12_undo 9 = .ok (.goto 4, 3) := by decide +kernel
theorem dX12_undo_12 : decode cX12_undo 12 = .ok (.iconst 0, 1) := by decide +kernel
theorem dX12_undo_13 : decode cX12_undo 13 = .ok (.putfield 42, 3) := by decide +kernel
theorem dX12_undo_16 : decode cX12_undo 16 = .ok (.aload_n 0, 1) := by decide +kernel
theorem dX12_undo_17 : decode cX12_undo 17 = .ok (.getfield 42, 3) := by decide +kernel
theorem dX12_undo_20 : decode cX12_undo 20 = .ok (.ifCond .le 5, 3) := by decide +kernel
theorem dX12_undo_23 : decode cX12_undo 23 = .ok (.iconst 0, 1) := by decide +kernel
theorem dX12_undo_24 : decode cX12_undo 24 = .ok (.ireturn, 1) := by decide +kernel
theorem dX12_undo_25 : decode cX12_undo 25 = .ok (.aload_n 0, 1) := by decide +kernel
theorem dX12_undo_26 : decode cX12_undo 26 = .ok (.dup, 1) := by decide +kernel
theorem dX12_undo_27 : decode cX12_undo 27 = .ok (.getfield 51, 3) := by decide +kernel
theorem dX12_undo_30 : decode cX12_undo 30 = .ok (.iconst 1, 1) := by decide +kernel
theorem dX12_undo_31 : decode cX12_undo 31 = .ok (.isub, 1) := by decide +kernel
theorem dX12_undo_32 : decode cX12_undo 32 = .ok (.putfield 51, 3) := by decide +kernel
theorem dX12_undo_35 : decode cX12_undo 35 = .ok (.aload_n 0, 1) := by decide +kernel
theorem dX12_undo_36 : decode cX12_undo 36 = .ok (.getfield 19, 3) := by decide +kernel
theorem dX12_undo_39 : decode cX12_undo 39 = .ok (.sipush 147, 3) := by decide +kernel
theorem dX12_undo_42 : decode cX12_undo 42 = .ok (.aload_n 0, 1) := by decide +kernel
theorem dX12_undo_43 : decode cX12_undo 43 = .ok (.getfield 51, 3) := by decide +kernel
theorem dX12_undo_46 : decode cX12_undo 46 = .ok (.imul, 1) := by decide +kernel
theorem dX12_undo_47 : decode cX12_undo 47 = .ok (.aload_n 0, 1) := by decide +kernel
theorem dX12_undo_48 : decode cX12_undo 48 = .ok (.getfield 9, 3) := by decide +kernel
theorem dX12_undo_51 : decode cX12_undo 51 = .ok (.iconst 0, 1) := by decide +kernel
theorem dX12_undo_52 : decode cX12_undo 52 = .ok (.sipush 147, 3) := by decide +kernel
theorem dX12_undo_55 : decode cX12_undo 55 = .ok (.invokestatic 45, 3) := by decide +kernel
theorem dX12_undo_58 : decode cX12_undo 58 = .ok (.aload_n 0, 1) := by decide +kernel
theorem dX12_undo_59 : decode cX12_undo 59 = .ok (.getfield 51, 3) := by decide +kernel
theorem dX12_undo_62 : decode cX12_undo 62 = .ok (.ireturn, 1) := by decide +kernel
theorem k_X12_undo : cardV yX12_undo (Cond.code yX12_undo cX12_undo 1 (some .int)) 0 := ⟨⟨qi_X12_undo, qv_X12_undo⟩, qc_X12_undo, qn_X12, by decide +kernel, by decide +kernel, by decide +kernel⟩
set_option maxHeartbeats 4000000 in
set_option maxRecDepth 100000 in
theorem c_X12_undo (l : Launch) (D : va_G) (g : Nat → ClassId) (q_this q_s q_before q_saved q_past q_steps q_goes q_line q_text q_orders : Nat) (f_isSaved : Int32) (f_pastMany : Int32) (f_thrown : Int32) (f_reason : Int32) (f_detail : Int32) (f_isRefused : Int32) (f_goesMany : Int32) (f_roundSteps : Int32) (f_lineMany : Int32) (f_length : Int32) (f_at : Int32) (f_isWrong : Int32) (f_errorAt : Int32) (f_orderMany : Int32) (a_s : Nat → Int32) (a_past : Nat → Int32) (o : Int32 × Int32 × Int32 × (Nat → Int32)) (h : F_X12_undo a_past f_pastMany f_thrown a_s = some o) : MW l yX12_undo (Cond.code yX12_undo cX12_undo 1 (some .int)) { frames := 1, cells := 0, slots := 0, locals := 40 } D g [.ref q_this] [(q_this, .inr (12, [.ref q_s, .ref q_before, .ref q_saved, .int f_isSaved, .ref q_past, .int f_pastMany, .int f_thrown, .int f_reason, .int f_detail, .int f_isRefused, .ref q_steps, .ref q_goes, .int f_goesMany, .int f_roundSteps, .ref q_line, .int f_lineMany, .ref q_text, .int f_length, .int f_at, .int f_isWrong, .int f_errorAt, .ref q_orders, .int f_orderMany])), (q_s, .inl (g 0, 147, .inl a_s)), (q_past, .inl (g 0, 1176, .inl a_past))] (some (.int o.1)) [(q_this, .inr (12, [.ref q_s, .ref q_before, .ref q_saved, .int f_isSaved, .ref q_past, .int o.2.1, .int o.2.2.1, .int f_reason, .int f_detail, .int f_isRefused, .ref q_steps, .ref q_goes, .int f_goesMany, .int f_roundSteps, .ref q_line, .int f_lineMany, .ref q_text, .int f_length, .int f_at, .int f_isWrong, .int f_errorAt, .ref q_orders, .int f_orderMany])), (q_s, .inl (g 0, 147, .inl o.2.2.2)), (q_past, .inl (g 0, 1176, .inl a_past))] := by
  refine z_wr_start (by decide) (Nat.le_of_ble_eq_true rfl) ?_
  intro p e s m args below meth c Q A X hr hQ hA
  refine z_lv (lv' := [(0, .ref q_this)]) rfl ?_
  have H13 : ∀ (t0 : Int32) (f_pastMany : Int32) (f_thrown : Int32) (a_s : Nat → Int32), J_X12_undo_13 a_past t0 f_pastMany f_thrown a_s = some o → Z p l e { frames := 1, cells := 0, slots := 0, locals := 40 } s m args below meth c Q 1 0 0 (IW D A s [(q_this, .inr (12, [.ref q_s, .ref q_before, .ref q_saved, .int f_isSaved, .ref q_past, .int f_pastMany, .int f_thrown, .int f_reason, .int f_detail, .int f_isRefused, .ref q_steps, .ref q_goes, .int f_goesMany, .int f_roundSteps, .ref q_line, .int f_lineMany, .ref q_text, .int f_length, .int f_at, .int f_isWrong, .int f_errorAt, .ref q_orders, .int f_orderMany])), (q_s, .inl (g 0, 147, .inl a_s)), (q_past, .inl (g 0, 1176, .inl a_past))]) 13 [(0, .ref q_this)] [.int t0, .ref q_this] := by
    intro t0 f_pastMany f_thrown a_s h
    refine z_put (q0 := 0) (k := 6) (ci := 12) (ws' := [(q_this, .inr (12, [.ref q_s, .ref q_before, .ref q_saved, .int f_isSaved, .ref q_past, .int f_pastMany, .int t0, .int f_reason, .int f_detail, .int f_isRefused, .ref q_steps, .ref q_goes, .int f_goesMany, .int f_roundSteps, .ref q_line, .int f_lineMany, .ref q_text, .int f_length, .int f_at, .int f_isWrong, .int f_errorAt, .ref q_orders, .int f_orderMany])), (q_s, .inl (g 0, 147, .inl a_s)), (q_past, .inl (g 0, 1176, .inl a_past))]) X iw_X12 tyX12_ok nmX12 rfl qf_X12_X12_thrown (by decide) rfl rfl dX12_undo_13 rfl rfl rfl (Nat.le_of_ble_eq_true rfl) rfl ?_
    refine z_aload_n X 0 dX12_undo_16 rfl rfl ?_
    refine z_get (q0 := 0) (k := 6) (ci := 12) X IW_P iw_X12 rfl qf_X12_X12_thrown (by decide) dX12_undo_17 rfl rfl ?_
    refine z_if_le X 25 dX12_undo_20 (by decide) h (fun _ h => ?_) (fun _ h => ?_)
    · refine z_aload_n X 0 dX12_undo_25 rfl rfl ?_
      refine z_dup X dX12_undo_26 rfl ?_
      refine z_get (q0 := 0) (k := 5) (ci := 12) X IW_P iw_X12 rfl qf_X12_X12_pastMany (by decide) dX12_undo_27 rfl rfl ?_
      refine z_iconst X (1 : Int32) dX12_undo_30 (by decide) ?_
      refine z_isub X dX12_undo_31 ?_
      refine z_put (q0 := 0) (k := 5) (ci := 12) (ws' := [(q_this, .inr (12, [.ref q_s, .ref q_before, .ref q_saved, .int f_isSaved, .ref q_past, .int (f_pastMany - (1 : Int32)), .int t0, .int f_reason, .int f_detail, .int f_isRefused, .ref q_steps, .ref q_goes, .int f_goesMany, .int f_roundSteps, .ref q_line, .int f_lineMany, .ref q_text, .int f_length, .int f_at, .int f_isWrong, .int f_errorAt, .ref q_orders, .int f_orderMany])), (q_s, .inl (g 0, 147, .inl a_s)), (q_past, .inl (g 0, 1176, .inl a_past))]) X iw_X12 tyX12_ok nmX12 rfl qf_X12_X12_pastMany (by decide) rfl rfl dX12_undo_32 rfl rfl rfl (Nat.le_of_ble_eq_true rfl) rfl ?_
      refine z_aload_n X 0 dX12_undo_35 rfl rfl ?_
      refine z_get (q0 := 0) (k := 4) (ci := 12) X IW_P iw_X12 rfl qf_X12_X12_past (by decide) dX12_undo_36 rfl rfl ?_
      refine z_sipush X (147 : Int32) dX12_undo_39 (by decide) ?_
      refine z_aload_n X 0 dX12_undo_42 rfl rfl ?_
      refine z_get (q0 := 0) (k := 5) (ci := 12) X IW_P iw_X12 rfl qf_X12_X12_pastMany (by decide) dX12_undo_43 rfl rfl ?_
      refine z_imul X dX12_undo_46 ?_
      refine z_aload_n X 0 dX12_undo_47 rfl rfl ?_
      refine z_get (q0 := 0) (k := 0) (ci := 12) X IW_P iw_X12 rfl qf_X12_X12_s (by decide) dX12_undo_48 rfl rfl ?_
      refine z_iconst X (0 : Int32) dX12_undo_51 (by decide) ?_
      refine z_sipush X (147 : Int32) dX12_undo_52 (by decide) ?_
      refine z_copyi (q0 := 2) (q1 := 1) (ws' := [(q_this, .inr (12, [.ref q_s, .ref q_before, .ref q_saved, .int f_isSaved, .ref q_past, .int (f_pastMany - (1 : Int32)), .int t0, .int f_reason, .int f_detail, .int f_isRefused, .ref q_steps, .ref q_goes, .int f_goesMany, .int f_roundSteps, .ref q_line, .int f_lineMany, .ref q_text, .int f_length, .int f_at, .int f_isWrong, .int f_errorAt, .ref q_orders, .int f_orderMany])), (q_s, .inl (g 0, 147, .inl (va_cpy a_past a_s ((147 : Int32) * (f_pastMany - (1 : Int32))).toNatClampNeg (0 : Int32).toNatClampNeg (147 : Int32).toNatClampNeg))), (q_past, .inl (g 0, 1176, .inl a_past))]) X ql_X12_ac dX12_undo_55 rfl rfl h rfl (Nat.le_of_ble_eq_true rfl) (Nat.le_of_ble_eq_true rfl) (fun h => ?_)
      refine z_aload_n X 0 dX12_undo_58 rfl rfl ?_
      refine z_get (q0 := 0) (k := 5) (ci := 12) X IW_P iw_X12 rfl qf_X12_X12_pastMany (by decide) dX12_undo_59 rfl rfl ?_
      cases h
      exact z_iretW X hQ hA hr dX12_undo_62
    · refine z_iconst X (0 : Int32) dX12_undo_23 (by decide) ?_
      cases h
      exact z_iretW X hQ hA hr dX12_undo_24
  refine z_aload_n X 0 dX12_undo_0 rfl rfl ?_
  refine z_aload_n X 0 dX12_undo_1 rfl rfl ?_
  refine z_get (q0 := 0) (k := 5) (ci := 12) X IW_P iw_X12 rfl qf_X12_X12_pastMany (by decide) dX12_undo_2 rfl rfl ?_
  refine z_if_ne X 12 dX12_undo_5 (by decide) h (fun _ h => ?_) (fun _ h => ?_)
  · refine z_iconst X (1 : Int32) dX12_undo_8 (by decide) ?_
    refine z_goto X 13 dX12_undo_9 (by decide) ?_
    exact H13 (1 : Int32) f_pastMany f_thrown a_s h
  · refine z_iconst X (0 : Int32) dX12_undo_12 (by decide) ?_
    exact H13 (0 : Int32) f_pastMany f_thrown a_s h

def F_X12_save (a_s : Nat → Int32) (f_isSaved : Int32) (f_thrown : Int32) (a_saved : Nat → Int32) : Option (Int32 × Int32 × Int32 × (Nat → Int32)) :=
  grd (cpyok (0 : Int32) (0 : Int32) (147 : Int32) 147 147) (grd (inb (2 : Int32) 147) (some (a_s (2 : Int32).toNatClampNeg, (1 : Int32), (0 : Int32), (va_cpy a_s a_saved (0 : Int32).toNatClampNeg (0 : Int32).toNatClampNeg (147 : Int32).toNatClampNeg))))
theorem dX12_save_0 : decode cX12_save 0 = .ok (.aload_n 0, 1) := by decide +kernel
theorem dX12_save_1 : decode cX12_save 1 = .ok (.iconst 0, 1) := by decide +kernel
theorem dX12_save_2 : decode cX12_save 2 = .ok (.putfield 42, 3) := by decide +kernel
theorem dX12_save_5 : decode cX12_save 5 = .ok (.aload_n 0, 1) := by decide +kernel
theorem dX12_save_6 : decode cX12_save 6 = .ok (.getfield 9, 3) := by decide +kernel
theorem dX12_save_9 : decode cX12_save 9 = .ok (.iconst 0, 1) := by decide +kernel
theorem dX12_save_10 : decode cX12_save 10 = .ok (.aload_n 0, 1) := by decide +kernel
theorem dX12_save_11 : decode cX12_save 11 = .ok (.getfield 16, 3) := by decide +kernel
theorem dX12_save_14 : decode cX12_save 14 = .ok (.iconst 0, 1) := by decide +kernel
theorem dX12_save_15 : decode cX12_save 15 = .ok (.sipush 147, 3) := by decide +kernel
theorem dX12_save_18 : decode cX12_save 18 = .ok (.invokestatic 45, 3) := by decide +kernel
theorem dX12_save_21 : decode cX12_save 21 = .ok (.aload_n 0, 1) := by decide +kernel
theorem dX12_save_22 : decode cX12_save 22 = .ok (.iconst 1, 1) := by decide +kernel
theorem dX12_save_23 : decode cX12_save 23 = .ok (.putfield 269, 3) := by decide +kernel
theorem dX12_save_26 : decode cX12_save 26 = .ok (.aload_n 0, 1) := by decide +kernel
theorem dX12_save_27 : decode cX12_save 27 = .ok (.getfield 9, 3) := by decide +kernel
theorem dX12_save_30 : decode cX12_save 30 = .ok (.iconst 2, 1) := by decide +kernel
theorem dX12_save_31 : decode cX12_save 31 = .ok (.iaload, 1) := by decide +kernel
theorem dX12_save_32 : decode cX12_save 32 = .ok (.ireturn, 1) := by decide +kernel
theorem k_X12_save : cardV yX12_save (Cond.code yX12_save cX12_save 1 (some .int)) 0 := ⟨⟨qi_X12_save, qv_X12_save⟩, qc_X12_save, qn_X12, by decide +kernel, by decide +kernel, by decide +kernel⟩
set_option maxHeartbeats 4000000 in
set_option maxRecDepth 100000 in
theorem c_X12_save (l : Launch) (D : va_G) (g : Nat → ClassId) (q_this q_s q_before q_saved q_past q_steps q_goes q_line q_text q_orders : Nat) (f_isSaved : Int32) (f_pastMany : Int32) (f_thrown : Int32) (f_reason : Int32) (f_detail : Int32) (f_isRefused : Int32) (f_goesMany : Int32) (f_roundSteps : Int32) (f_lineMany : Int32) (f_length : Int32) (f_at : Int32) (f_isWrong : Int32) (f_errorAt : Int32) (f_orderMany : Int32) (a_s : Nat → Int32) (a_saved : Nat → Int32) (o : Int32 × Int32 × Int32 × (Nat → Int32)) (h : F_X12_save a_s f_isSaved f_thrown a_saved = some o) : MW l yX12_save (Cond.code yX12_save cX12_save 1 (some .int)) { frames := 1, cells := 0, slots := 0, locals := 40 } D g [.ref q_this] [(q_this, .inr (12, [.ref q_s, .ref q_before, .ref q_saved, .int f_isSaved, .ref q_past, .int f_pastMany, .int f_thrown, .int f_reason, .int f_detail, .int f_isRefused, .ref q_steps, .ref q_goes, .int f_goesMany, .int f_roundSteps, .ref q_line, .int f_lineMany, .ref q_text, .int f_length, .int f_at, .int f_isWrong, .int f_errorAt, .ref q_orders, .int f_orderMany])), (q_s, .inl (g 0, 147, .inl a_s)), (q_saved, .inl (g 0, 147, .inl a_saved))] (some (.int o.1)) [(q_this, .inr (12, [.ref q_s, .ref q_before, .ref q_saved, .int o.2.1, .ref q_past, .int f_pastMany, .int o.2.2.1, .int f_reason, .int f_detail, .int f_isRefused, .ref q_steps, .ref q_goes, .int f_goesMany, .int f_roundSteps, .ref q_line, .int f_lineMany, .ref q_text, .int f_length, .int f_at, .int f_isWrong, .int f_errorAt, .ref q_orders, .int f_orderMany])), (q_s, .inl (g 0, 147, .inl a_s)), (q_saved, .inl (g 0, 147, .inl o.2.2.2))] := by
  refine z_wr_start (by decide) (Nat.le_of_ble_eq_true rfl) ?_
  intro p e s m args below meth c Q A X hr hQ hA
  refine z_lv (lv' := [(0, .ref q_this)]) rfl ?_
  refine z_aload_n X 0 dX12_save_0 rfl rfl ?_
  refine z_iconst X (0 : Int32) dX12_save_1 (by decide) ?_
  refine z_put (q0 := 0) (k := 6) (ci := 12) (ws' := [(q_this, .inr (12, [.ref q_s, .ref q_before, .ref q_saved, .int f_isSaved, .ref q_past, .int f_pastMany, .int (0 : Int32), .int f_reason, .int f_detail, .int f_isRefused, .ref q_steps, .ref q_goes, .int f_goesMany, .int f_roundSteps, .ref q_line, .int f_lineMany, .ref q_text, .int f_length, .int f_at, .int f_isWrong, .int f_errorAt, .ref q_orders, .int f_orderMany])), (q_s, .inl (g 0, 147, .inl a_s)), (q_saved, .inl (g 0, 147, .inl a_saved))]) X iw_X12 tyX12_ok nmX12 rfl qf_X12_X12_thrown (by decide) rfl rfl dX12_save_2 rfl rfl rfl (Nat.le_of_ble_eq_true rfl) rfl ?_
  refine z_aload_n X 0 dX12_save_5 rfl rfl ?_
  refine z_get (q0 := 0) (k := 0) (ci := 12) X IW_P iw_X12 rfl qf_X12_X12_s (by decide) dX12_save_6 rfl rfl ?_
  refine z_iconst X (0 : Int32) dX12_save_9 (by decide) ?_
  refine z_aload_n X 0 dX12_save_10 rfl rfl ?_
  refine z_get (q0 := 0) (k := 2) (ci := 12) X IW_P iw_X12 rfl qf_X12_X12_saved (by decide) dX12_save_11 rfl rfl ?_
  refine z_iconst X (0 : Int32) dX12_save_14 (by decide) ?_
  refine z_sipush X (147 : Int32) dX12_save_15 (by decide) ?_
  refine z_copyi (q0 := 1) (q1 := 2) (ws' := [(q_this, .inr (12, [.ref q_s, .ref q_before, .ref q_saved, .int f_isSaved, .ref q_past, .int f_pastMany, .int (0 : Int32), .int f_reason, .int f_detail, .int f_isRefused, .ref q_steps, .ref q_goes, .int f_goesMany, .int f_roundSteps, .ref q_line, .int f_lineMany, .ref q_text, .int f_length, .int f_at, .int f_isWrong, .int f_errorAt, .ref q_orders, .int f_orderMany])), (q_s, .inl (g 0, 147, .inl a_s)), (q_saved, .inl (g 0, 147, .inl (va_cpy a_s a_saved (0 : Int32).toNatClampNeg (0 : Int32).toNatClampNeg (147 : Int32).toNatClampNeg)))]) X ql_X12_ac dX12_save_18 rfl rfl h rfl (Nat.le_of_ble_eq_true rfl) (Nat.le_of_ble_eq_true rfl) (fun h => ?_)
  refine z_aload_n X 0 dX12_save_21 rfl rfl ?_
  refine z_iconst X (1 : Int32) dX12_save_22 (by decide) ?_
  refine z_put (q0 := 0) (k := 3) (ci := 12) (ws' := [(q_this, .inr (12, [.ref q_s, .ref q_before, .ref q_saved, .int (1 : Int32), .ref q_past, .int f_pastMany, .int (0 : Int32), .int f_reason, .int f_detail, .int f_isRefused, .ref q_steps, .ref q_goes, .int f_goesMany, .int f_roundSteps, .ref q_line, .int f_lineMany, .ref q_text, .int f_length, .int f_at, .int f_isWrong, .int f_errorAt, .ref q_orders, .int f_orderMany])), (q_s, .inl (g 0, 147, .inl a_s)), (q_saved, .inl (g 0, 147, .inl (va_cpy a_s a_saved (0 : Int32).toNatClampNeg (0 : Int32).toNatClampNeg (147 : Int32).toNatClampNeg)))]) X iw_X12 tyX12_ok nmX12 rfl qf_X12_X12_isSaved (by decide) rfl rfl dX12_save_23 rfl rfl rfl (Nat.le_of_ble_eq_true rfl) rfl ?_
  refine z_aload_n X 0 dX12_save_26 rfl rfl ?_
  refine z_get (q0 := 0) (k := 0) (ci := 12) X IW_P iw_X12 rfl qf_X12_X12_s (by decide) dX12_save_27 rfl rfl ?_
  refine z_iconst X (2 : Int32) dX12_save_30 (by decide) ?_
  refine z_iald (q0 := 1) X IW_P dX12_save_31 rfl h (fun h => ?_)
  cases h
  exact z_iretW X hQ hA hr dX12_save_32

def J_X12_restore_13 (f_isSaved : Int32) (a_saved : Nat → Int32) (t0 : Int32) (f_pastMany : Int32) (f_thrown : Int32) (a_s : Nat → Int32) : Option (Int32 × Int32 × Int32 × (Nat → Int32)) :=
  brn (t0 ≤ 0) (grd (cpyok (0 : Int32) (0 : Int32) (147 : Int32) 147 147) (grd (inb (2 : Int32) 147) (some ((va_cpy a_saved a_s (0 : Int32).toNatClampNeg (0 : Int32).toNatClampNeg (147 : Int32).toNatClampNeg) (2 : Int32).toNatClampNeg, (0 : Int32), t0, (va_cpy a_saved a_s (0 : Int32).toNatClampNeg (0 : Int32).toNatClampNeg (147 : Int32).toNatClampNeg))))) (some ((0 : Int32), f_pastMany, t0, a_s))

def F_X12_restore (f_isSaved : Int32) (a_saved : Nat → Int32) (f_pastMany : Int32) (f_thrown : Int32) (a_s : Nat → Int32) : Option (Int32 × Int32 × Int32 × (Nat → Int32)) :=
  brn (f_isSaved = 0) (J_X12_restore_13 f_isSaved a_saved (1 : Int32) f_pastMany f_thrown a_s) (J_X12_restore_13 f_isSaved a_saved (0 : Int32) f_pastMany f_thrown a_s)
theorem dX12_restore_0 : decode cX12_restore 0 = .ok (.aload_n 0, 1) := by decide +kernel
theorem dX12_restore_1 : decode cX12_restore 1 = .ok (.aload_n 0, 1) := by decide +kernel
theorem dX12_restore_2 : decode cX12_restore 2 = .ok (.getfield 269, 3) := by decide +kernel
theorem dX12_restore_5 : decode cX12_restore 5 = .ok (.ifCond .eq 7, 3) := by decide +kernel
theorem dX12_restore_8 : decode cX12_restore 8 = .ok (.iconst 0, 1) := by decide +kernel
theorem dX12_restore_9 : decode cX12_restore 9 = .ok (.goto 4, 3) := by decide +kernel
theorem dX12_restore_12 : decode cX12_restore 12 = .ok (.iconst 1, 1) := by decide +kernel
theorem dX12_restore_13 : decode cX12_restore 13 = .ok (.putfield 42, 3) := by decide +kernel
theorem dX12_restore_16 : decode cX12_restore 16 = .ok (.aload_n 0, 1) := by decide +kernel
theorem dX12_restore_17 : decode cX12_restore 17 = .ok (.getfield 42, 3) := by decide +kernel
theorem dX12_restore_20 : decode cX12_restore 20 = .ok (.ifCond .le 5, 3) := by decide +kernel
theorem dX12_restore_23 : decode cX12_restore 23 = .ok (.iconst 0, 1) := by decide +kernel
theorem dX12_restore_24 : decode cX12_restore 24 = .ok (.ireturn, 1) := by decide +kernel
theorem dX12_restore_25 : decode cX12_restore 25 = .ok (.aload_n 0, 1) := by decide +kernel
theorem dX12_restore_26 : decode cX12_restore 26 = .ok (.getfield 16, 3) := by decide +kernel
theorem dX12_restore_29 : decode cX12_restore 29 = .ok (.iconst 0, 1) := by decide +kernel
theorem dX12_restore_30 : decode cX12_restore 30 = .ok (.aload_n 0, 1) := by decide +kernel
theorem dX12_restore_31 : decode cX12_restore 31 = .ok (.getfield 9, 3) := by decide +kernel
theorem dX12_restore_34 : decode cX12_restore 34 = .ok (.iconst 0, 1) := by decide +kernel
theorem dX12_restore_35 : decode cX12_restore 35 = .ok (.sipush 147, 3) := by decide +kernel
theorem dX12_restore_38 : decode cX12_restore 38 = .ok (.invokestatic 45, 3) := by decide +kernel
theorem dX12_restore_41 : decode cX12_restore 41 = .ok (.aload_n 0, 1) := by decide +kernel
theorem dX12_restore_42 : decode cX12_restore 42 = .ok (.iconst 0, 1) := by decide +kernel
theorem dX12_restore_43 : decode cX12_restore 43 = .ok (.putfield 51, 3) := by decide +kernel
theorem dX12_restore_46 : decode cX12_restore 46 = .ok (.aload_n 0, 1) := by decide +kernel
theorem dX12_restore_47 : decode cX12_restore 47 = .ok (.getfield 9, 3) := by decide +kernel
theorem dX12_restore_50 : decode cX12_restore 50 = .ok (.iconst 2, 1) := by decide +kernel
theorem dX12_restore_51 : decode cX12_restore 51 = .ok (.iaload, 1) := by decide +kernel
theorem dX12_restore_52 : decode cX12_restore 52 = .ok (.ireturn, 1) := by decide +kernel
theorem k_X12_restore : cardV yX12_restore (Cond.code yX12_restore cX12_restore 1 (some .int)) 0 := ⟨⟨qi_X12_restore, qv_X12_restore⟩, qc_X12_restore, qn_X12, by decide +kernel, by decide +kernel, by decide +kernel⟩
set_option maxHeartbeats 4000000 in
set_option maxRecDepth 100000 in
theorem c_X12_restore (l : Launch) (D : va_G) (g : Nat → ClassId) (q_this q_s q_before q_saved q_past q_steps q_goes q_line q_text q_orders : Nat) (f_isSaved : Int32) (f_pastMany : Int32) (f_thrown : Int32) (f_reason : Int32) (f_detail : Int32) (f_isRefused : Int32) (f_goesMany : Int32) (f_roundSteps : Int32) (f_lineMany : Int32) (f_length : Int32) (f_at : Int32) (f_isWrong : Int32) (f_errorAt : Int32) (f_orderMany : Int32) (a_s : Nat → Int32) (a_saved : Nat → Int32) (o : Int32 × Int32 × Int32 × (Nat → Int32)) (h : F_X12_restore f_isSaved a_saved f_pastMany f_thrown a_s = some o) : MW l yX12_restore (Cond.code yX12_restore cX12_restore 1 (some .int)) { frames := 1, cells := 0, slots := 0, locals := 40 } D g [.ref q_this] [(q_this, .inr (12, [.ref q_s, .ref q_before, .ref q_saved, .int f_isSaved, .ref q_past, .int f_pastMany, .int f_thrown, .int f_reason, .int f_detail, .int f_isRefused, .ref q_steps, .ref q_goes, .int f_goesMany, .int f_roundSteps, .ref q_line, .int f_lineMany, .ref q_text, .int f_length, .int f_at, .int f_isWrong, .int f_errorAt, .ref q_orders, .int f_orderMany])), (q_s, .inl (g 0, 147, .inl a_s)), (q_saved, .inl (g 0, 147, .inl a_saved))] (some (.int o.1)) [(q_this, .inr (12, [.ref q_s, .ref q_before, .ref q_saved, .int f_isSaved, .ref q_past, .int o.2.1, .int o.2.2.1, .int f_reason, .int f_detail, .int f_isRefused, .ref q_steps, .ref q_goes, .int f_goesMany, .int f_roundSteps, .ref q_line, .int f_lineMany, .ref q_text, .int f_length, .int f_at, .int f_isWrong, .int f_errorAt, .ref q_orders, .int f_orderMany])), (q_s, .inl (g 0, 147, .inl o.2.2.2)), (q_saved, .inl (g 0, 147, .inl a_saved))] := by
  refine z_wr_start (by decide) (Nat.le_of_ble_eq_true rfl) ?_
  intro p e s m args below meth c Q A X hr hQ hA
  refine z_lv (lv' := [(0, .ref q_this)]) rfl ?_
  have H13 : ∀ (t0 : Int32) (f_pastMany : Int32) (f_thrown : Int32) (a_s : Nat → Int32), J_X12_restore_13 f_isSaved a_saved t0 f_pastMany f_thrown a_s = some o → Z p l e { frames := 1, cells := 0, slots := 0, locals := 40 } s m args below meth c Q 1 0 0 (IW D A s [(q_this, .inr (12, [.ref q_s, .ref q_before, .ref q_saved, .int f_isSaved, .ref q_past, .int f_pastMany, .int f_thrown, .int f_reason, .int f_detail, .int f_isRefused, .ref q_steps, .ref q_goes, .int f_goesMany, .int f_roundSteps, .ref q_line, .int f_lineMany, .ref q_text, .int f_length, .int f_at, .int f_isWrong, .int f_errorAt, .ref q_orders, .int f_orderMany])), (q_s, .inl (g 0, 147, .inl a_s)), (q_saved, .inl (g 0, 147, .inl a_saved))]) 13 [(0, .ref q_this)] [.int t0, .ref q_this] := by
    intro t0 f_pastMany f_thrown a_s h
    refine z_put (q0 := 0) (k := 6) (ci := 12) (ws' := [(q_this, .inr (12, [.ref q_s, .ref q_before, .ref q_saved, .int f_isSaved, .ref q_past, .int f_pastMany, .int t0, .int f_reason, .int f_detail, .int f_isRefused, .ref q_steps, .ref q_goes, .int f_goesMany, .int f_roundSteps, .ref q_line, .int f_lineMany, .ref q_text, .int f_length, .int f_at, .int f_isWrong, .int f_errorAt, .ref q_orders, .int f_orderMany])), (q_s, .inl (g 0, 147, .inl a_s)), (q_saved, .inl (g 0, 147, .inl a_saved))]) X iw_X12 tyX12_ok nmX12 rfl qf_X12_X12_thrown (by decide) rfl rfl dX12_restore_13 rfl rfl rfl (Nat.le_of_ble_eq_true rfl) rfl ?_
    refine z_aload_n X 0 dX12_restore_16 rfl rfl ?_
    refine z_get (q0 := 0) (k := 6) (ci := 12) X IW_P iw_X12 rfl qf_X12_X12_thrown (by decide) dX12_restore_17 rfl rfl ?_
    refine z_if_le X 25 dX12_restore_20 (by decide) h (fun _ h => ?_) (fun _ h => ?_)
    · refine z_aload_n X 0 dX12_restore_25 rfl rfl ?_
      refine z_get (q0 := 0) (k := 2) (ci := 12) X IW_P iw_X12 rfl qf_X12_X12_saved (by decide) dX12_restore_26 rfl rfl ?_
      refine z_iconst X (0 : Int32) dX12_restore_29 (by decide) ?_
      refine z_aload_n X 0 dX12_restore_30 rfl rfl ?_
      refine z_get (q0 := 0) (k := 0) (ci := 12) X IW_P iw_X12 rfl qf_X12_X12_s (by decide) dX12_restore_31 rfl rfl ?_
      refine z_iconst X (0 : Int32) dX12_restore_34 (by decide) ?_
      refine z_sipush X (147 : Int32) dX12_restore_35 (by decide) ?_
      refine z_copyi (q0 := 2) (q1 := 1) (ws' := [(q_this, .inr (12, [.ref q_s, .ref q_before, .ref q_saved, .int f_isSaved, .ref q_past, .int f_pastMany, .int t0, .int f_reason, .int f_detail, .int f_isRefused, .ref q_steps, .ref q_goes, .int f_goesMany, .int f_roundSteps, .ref q_line, .int f_lineMany, .ref q_text, .int f_length, .int f_at, .int f_isWrong, .int f_errorAt, .ref q_orders, .int f_orderMany])), (q_s, .inl (g 0, 147, .inl (va_cpy a_saved a_s (0 : Int32).toNatClampNeg (0 : Int32).toNatClampNeg (147 : Int32).toNatClampNeg))), (q_saved, .inl (g 0, 147, .inl a_saved))]) X ql_X12_ac dX12_restore_38 rfl rfl h rfl (Nat.le_of_ble_eq_true rfl) (Nat.le_of_ble_eq_true rfl) (fun h => ?_)
      refine z_aload_n X 0 dX12_restore_41 rfl rfl ?_
      refine z_iconst X (0 : Int32) dX12_restore_42 (by decide) ?_
      refine z_put (q0 := 0) (k := 5) (ci := 12) (ws' := [(q_this, .inr (12, [.ref q_s, .ref q_before, .ref q_saved, .int f_isSaved, .ref q_past, .int (0 : Int32), .int t0, .int f_reason, .int f_detail, .int f_isRefused, .ref q_steps, .ref q_goes, .int f_goesMany, .int f_roundSteps, .ref q_line, .int f_lineMany, .ref q_text, .int f_length, .int f_at, .int f_isWrong, .int f_errorAt, .ref q_orders, .int f_orderMany])), (q_s, .inl (g 0, 147, .inl (va_cpy a_saved a_s (0 : Int32).toNatClampNeg (0 : Int32).toNatClampNeg (147 : Int32).toNatClampNeg))), (q_saved, .inl (g 0, 147, .inl a_saved))]) X iw_X12 tyX12_ok nmX12 rfl qf_X12_X12_pastMany (by decide) rfl rfl dX12_restore_43 rfl rfl rfl (Nat.le_of_ble_eq_true rfl) rfl ?_
      refine z_aload_n X 0 dX12_restore_46 rfl rfl ?_
      refine z_get (q0 := 0) (k := 0) (ci := 12) X IW_P iw_X12 rfl qf_X12_X12_s (by decide) dX12_restore_47 rfl rfl ?_
      refine z_iconst X (2 : Int32) dX12_restore_50 (by decide) ?_
      refine z_iald (q0 := 1) X IW_P dX12_restore_51 rfl h (fun h => ?_)
      cases h
      exact z_iretW X hQ hA hr dX12_restore_52
    · refine z_iconst X (0 : Int32) dX12_restore_23 (by decide) ?_
      cases h
      exact z_iretW X hQ hA hr dX12_restore_24
  refine z_aload_n X 0 dX12_restore_0 rfl rfl ?_
  refine z_aload_n X 0 dX12_restore_1 rfl rfl ?_
  refine z_get (q0 := 0) (k := 3) (ci := 12) X IW_P iw_X12 rfl qf_X12_X12_isSaved (by decide) dX12_restore_2 rfl rfl ?_
  refine z_if_eq X 12 dX12_restore_5 (by decide) h (fun _ h => ?_) (fun _ h => ?_)
  · refine z_iconst X (1 : Int32) dX12_restore_12 (by decide) ?_
    exact H13 (1 : Int32) f_pastMany f_thrown a_s h
  · refine z_iconst X (0 : Int32) dX12_restore_8 (by decide) ?_
    refine z_goto X 13 dX12_restore_9 (by decide) ?_
    exact H13 (0 : Int32) f_pastMany f_thrown a_s h
