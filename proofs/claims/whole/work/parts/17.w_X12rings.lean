def J_X12_rings_15 (p1 : Int32) (a_s : Nat → Int32) (t0 : Int32) (f_thrown : Int32) : Option (Int32 × Int32) :=
  brn (t0 ≤ 0) (grd (inb ((9 : Int32) + p1) 147) (some (a_s ((9 : Int32) + p1).toNatClampNeg, t0))) (some ((0 : Int32), t0))

def F_X12_rings (p1 : Int32) (a_s : Nat → Int32) (f_thrown : Int32) : Option (Int32 × Int32) :=
  bnd (F_X12_in p1 (0 : Int32) (3 : Int32)) (fun o1 => brn (o1 = 0) (J_X12_rings_15 p1 a_s (1 : Int32) f_thrown) (J_X12_rings_15 p1 a_s (0 : Int32) f_thrown))
theorem dX12_rings_0 : decode cX12_rings 0 = .ok (.aload_n 0, 1) := by decide +kernel
theorem dX12_rings_1 : decode cX12_rings 1 = .ok (.iload_n 1, 1) := by decide +kernel
theorem dX12_rings_2 : decode cX12_rings 2 = .ok (.iconst 0, 1) := by decide +kernel
theorem dX12_rings_3 : decode cX12_rings 3 = .ok (.iconst 3, 1) := by decide +kernel
theorem dX12_rings_4 : decode cX12_rings 4 = .ok (.invokestatic 64, 3) := by decide +kernel
theorem dX12_rings_7 : decode cX12_rings 7 = .ok (.ifCond .eq 7, 3) := by decide +kernel
theorem dX12_rings_10 : decode cX12_rings 10 = .ok (.iconst 0, 1) := by decide +kernel
theorem dX12_rings_11 : decode cX12_rings 11 = .ok (.goto 4, 3) := by decide +kernel
theorem dX12_rings_14 : decode cX12_rings 14 = .ok (.iconst 1, 1) := by decide +kernel
theorem dX12_rings_15 : decode cX12_rings 15 = .ok (.putfield 42, 3) := by decide +kernel
theorem dX12_rings_18 : decode cX12_rings 18 = .ok (.aload_n 0, 1) := by decide +kernel
theorem dX12_rings_19 : decode cX12_rings 19 = .ok (.getfield 42, 3) := by decide +kernel
theorem dX12_rings_22 : decode cX12_rings 22 = .ok (.ifCond .le 7, 3) := by decide +kernel
theorem dX12_rings_25 : decode cX12_rings 25 = .ok (.iconst 0, 1) := by decide +kernel
theorem dX12_rings_26 : decode cX12_rings 26 = .ok (.goto 12, 3) := by decide +kernel
theorem dX12_rings_29 : decode cX12_rings 29 = .ok (.aload_n 0, 1) := by decide +kernel
theorem dX12_rings_30 : decode cX12_rings 30 = .ok (.getfield 9, 3) := by decide +kernel
theorem dX12_rings_33 : decode cX12_rings 33 = .ok (.bipush 9, 2) := by decide +kernel
theorem dX12_rings_35 : decode cX12_rings 35 = .ok (.iload_n 1, 1) := by decide +kernel
theorem dX12_rings_36 : decode cX12_rings 36 = .ok (.iadd, 1) := by decide +kernel
theorem dX12_rings_37 : decode cX12_rings 37 = .ok (.iaload, 1) := by decide +kernel
theorem dX12_rings_38 : decode cX12_rings 38 = .ok (.ireturn, 1) := by decide +kernel
theorem k_X12_rings : cardV yX12_rings (Cond.code yX12_rings cX12_rings 2 (some .int)) 1 := ⟨⟨qi_X12_rings, qv_X12_rings⟩, qc_X12_rings, qn_X12, by decide +kernel, by decide +kernel, by decide +kernel⟩
set_option maxHeartbeats 4000000 in
set_option maxRecDepth 100000 in
theorem c_X12_rings (l : Launch) (D : va_G) (g : Nat → ClassId) (q_this q_s q_before q_saved q_past q_steps q_goes q_line q_text q_orders : Nat) (p1 : Int32) (f_isSaved : Int32) (f_pastMany : Int32) (f_thrown : Int32) (f_reason : Int32) (f_detail : Int32) (f_isRefused : Int32) (f_goesMany : Int32) (f_roundSteps : Int32) (f_lineMany : Int32) (f_length : Int32) (f_at : Int32) (f_isWrong : Int32) (f_errorAt : Int32) (f_orderMany : Int32) (a_s : Nat → Int32) (o : Int32 × Int32) (h : F_X12_rings p1 a_s f_thrown = some o) : MW l yX12_rings (Cond.code yX12_rings cX12_rings 2 (some .int)) { frames := 1, cells := 0, slots := 0, locals := 22 } D g [.ref q_this, .int p1] [(q_this, .inr (12, [.ref q_s, .ref q_before, .ref q_saved, .int f_isSaved, .ref q_past, .int f_pastMany, .int f_thrown, .int f_reason, .int f_detail, .int f_isRefused, .ref q_steps, .ref q_goes, .int f_goesMany, .int f_roundSteps, .ref q_line, .int f_lineMany, .ref q_text, .int f_length, .int f_at, .int f_isWrong, .int f_errorAt, .ref q_orders, .int f_orderMany])), (q_s, .inl (g 0, 147, .inl a_s))] (some (.int o.1)) [(q_this, .inr (12, [.ref q_s, .ref q_before, .ref q_saved, .int f_isSaved, .ref q_past, .int f_pastMany, .int o.2, .int f_reason, .int f_detail, .int f_isRefused, .ref q_steps, .ref q_goes, .int f_goesMany, .int f_roundSteps, .ref q_line, .int f_lineMany, .ref q_text, .int f_length, .int f_at, .int f_isWrong, .int f_errorAt, .ref q_orders, .int f_orderMany])), (q_s, .inl (g 0, 147, .inl a_s))] := by
  refine z_wr_start (by decide) (Nat.le_of_ble_eq_true rfl) ?_
  intro p e s m args below meth c Q A X hr hQ hA
  refine z_lv (lv' := [(0, .ref q_this), (1, .int p1)]) rfl ?_
  have H15 : ∀ (t0 : Int32) (f_thrown : Int32), J_X12_rings_15 p1 a_s t0 f_thrown = some o → Z p l e { frames := 1, cells := 0, slots := 0, locals := 22 } s m args below meth c Q 2 0 0 (IW D A s [(q_this, .inr (12, [.ref q_s, .ref q_before, .ref q_saved, .int f_isSaved, .ref q_past, .int f_pastMany, .int f_thrown, .int f_reason, .int f_detail, .int f_isRefused, .ref q_steps, .ref q_goes, .int f_goesMany, .int f_roundSteps, .ref q_line, .int f_lineMany, .ref q_text, .int f_length, .int f_at, .int f_isWrong, .int f_errorAt, .ref q_orders, .int f_orderMany])), (q_s, .inl (g 0, 147, .inl a_s))]) 15 [(0, .ref q_this), (1, .int p1)] [.int t0, .ref q_this] := by
    intro t0 f_thrown h
    refine z_put (q0 := 0) (k := 6) (ci := 12) (ws' := [(q_this, .inr (12, [.ref q_s, .ref q_before, .ref q_saved, .int f_isSaved, .ref q_past, .int f_pastMany, .int t0, .int f_reason, .int f_detail, .int f_isRefused, .ref q_steps, .ref q_goes, .int f_goesMany, .int f_roundSteps, .ref q_line, .int f_lineMany, .ref q_text, .int f_length, .int f_at, .int f_isWrong, .int f_errorAt, .ref q_orders, .int f_orderMany])), (q_s, .inl (g 0, 147, .inl a_s))]) X iw_X12 tyX12_ok nmX12 rfl qf_X12_X12_thrown (by decide) rfl rfl dX12_rings_15 rfl rfl rfl (Nat.le_of_ble_eq_true rfl) rfl ?_
    refine z_aload_n X 0 dX12_rings_18 rfl rfl ?_
    refine z_get (q0 := 0) (k := 6) (ci := 12) X IW_P iw_X12 rfl qf_X12_X12_thrown (by decide) dX12_rings_19 rfl rfl ?_
    refine z_if_le X 29 dX12_rings_22 (by decide) h (fun _ h => ?_) (fun _ h => ?_)
    · refine z_aload_n X 0 dX12_rings_29 rfl rfl ?_
      refine z_get (q0 := 0) (k := 0) (ci := 12) X IW_P iw_X12 rfl qf_X12_X12_s (by decide) dX12_rings_30 rfl rfl ?_
      refine z_bipush X (9 : Int32) dX12_rings_33 (by decide) ?_
      refine z_iload_n X 1 dX12_rings_35 rfl rfl ?_
      refine z_iadd X dX12_rings_36 ?_
      refine z_iald (q0 := 1) X IW_P dX12_rings_37 rfl h (fun h => ?_)
      cases h
      exact z_iretW X hQ hA hr dX12_rings_38
    · refine z_iconst X (0 : Int32) dX12_rings_25 (by decide) ?_
      refine z_goto X 38 dX12_rings_26 (by decide) ?_
      cases h
      exact z_iretW X hQ hA hr dX12_rings_38
  refine z_aload_n X 0 dX12_rings_0 rfl rfl ?_
  refine z_iload_n X 1 dX12_rings_1 rfl rfl ?_
  refine z_iconst X (0 : Int32) dX12_rings_2 (by decide) ?_
  refine z_iconst X (3 : Int32) dX12_rings_3 (by decide) ?_
  obtain ⟨o1, e2, h⟩ := bnd_p h
  refine z_rdS (rest := [.ref q_this]) X IW_P k_X12_in (c_X12_in l D g p1 (0 : Int32) (3 : Int32) o1 e2) ql_X12_X12_in dX12_rings_4 [] rfl rfl rfl ⟨Nat.le_of_ble_eq_true rfl, Nat.le_of_ble_eq_true rfl, rfl, rfl, Nat.le_of_ble_eq_true rfl, Nat.le_of_ble_eq_true rfl⟩ (Nat.le_of_ble_eq_true rfl) ?_
  refine z_if_eq X 14 dX12_rings_7 (by decide) h (fun _ h => ?_) (fun _ h => ?_)
  · refine z_iconst X (1 : Int32) dX12_rings_14 (by decide) ?_
    exact H15 (1 : Int32) f_thrown h
  · refine z_iconst X (0 : Int32) dX12_rings_10 (by decide) ?_
    refine z_goto X 15 dX12_rings_11 (by decide) ?_
    exact H15 (0 : Int32) f_thrown h

def F_X12_doPost (p1 : Int32) (f_thrown : Int32) (f_reason : Int32) (f_detail : Int32) (f_isRefused : Int32) (a_s : Nat → Int32) : Option (Int32 × Int32 × Int32 × Int32 × Int32 × (Nat → Int32)) :=
  grd (inb (4 : Int32) 147) (bnd (F_X12_isCell p1) (fun o1 => brn (o1 = 0) (bnd (F_X12_fails (1 : Int32) f_thrown) (fun o3 => some (o3.1, o3.2, f_reason, f_detail, f_isRefused, a_s))) (bnd (F_X12_isBlocked p1 a_s) (fun o5 => brn (o5 = 0) (bnd (F_X12_postOn p1 a_s) (fun o7 => brn (o7 < 0) (brn ((a_s (4 : Int32).toNatClampNeg) = (4 : Int32)) (bnd (F_X12_refuse (2 : Int32) (1 : Int32) (4 : Int32) f_thrown f_reason f_detail f_isRefused) (fun o9 => some (o9.1, o9.2.1, o9.2.2.1, o9.2.2.2.1, o9.2.2.2.2, a_s))) (grd (inb ((139 : Int32) + ((2 : Int32) * (a_s (4 : Int32).toNatClampNeg))) 147) (grd (inb (((139 : Int32) + ((2 : Int32) * (a_s (4 : Int32).toNatClampNeg))) + (1 : Int32)) 147) (grd (inb (4 : Int32) 147) (grd (inb (4 : Int32) 147) (some (a_s (4 : Int32).toNatClampNeg, f_thrown, f_reason, f_detail, f_isRefused, (upd (upd (upd a_s ((139 : Int32) + ((2 : Int32) * (a_s (4 : Int32).toNatClampNeg))).toNatClampNeg p1) (((139 : Int32) + ((2 : Int32) * (a_s (4 : Int32).toNatClampNeg))) + (1 : Int32)).toNatClampNeg ((-1) : Int32)) (4 : Int32).toNatClampNeg (((upd (upd a_s ((139 : Int32) + ((2 : Int32) * (a_s (4 : Int32).toNatClampNeg))).toNatClampNeg p1) (((139 : Int32) + ((2 : Int32) * (a_s (4 : Int32).toNatClampNeg))) + (1 : Int32)).toNatClampNeg ((-1) : Int32)) (4 : Int32).toNatClampNeg) + (1 : Int32)))))))))) (bnd (F_X12_postOn p1 a_s) (fun o11 => bnd (F_X12_refuse (2 : Int32) (7 : Int32) o11 f_thrown f_reason f_detail f_isRefused) (fun o13 => some (o13.1, o13.2.1, o13.2.2.1, o13.2.2.2.1, o13.2.2.2.2, a_s)))))) (bnd (F_X12_refuse (2 : Int32) (2 : Int32) p1 f_thrown f_reason f_detail f_isRefused) (fun o15 => some (o15.1, o15.2.1, o15.2.2.1, o15.2.2.2.1, o15.2.2.2.2, a_s)))))))
theorem dX12_doPost_0 : decode cX12_doPost 0 = .ok (.aload_n 0, 1) := by decide +kernel
theorem dX12_doPost_1 : decode cX12_doPost 1 = .ok (.getfield 9, 3) := by decide +kernel
theorem dX12_doPost_4 : decode cX12_doPost 4 = .ok (.iconst 4, 1) := by decide +kernel
theorem dX12_doPost_5 : decode cX12_doPost 5 = .ok (.iaload, 1) := by decide +kernel
theorem dX12_doPost_6 : decode cX12_doPost 6 = .ok (.istore_n 2, 1) := by decide +kernel
theorem dX12_doPost_7 : decode cX12_doPost 7 = .ok (.iload_n 1, 1) := by decide +kernel
theorem dX12_doPost_8 : decode cX12_doPost 8 = .ok (.invokestatic 81, 3) := by decide +kernel
theorem dX12_doPost_11 : decode cX12_doPost 11 = .ok (.ifCond .ne 9, 3) := by decide +kernel
theorem dX12_doPost_14 : decode cX12_doPost 14 = .ok (.aload_n 0, 1) := by decide +kernel
theorem dX12_doPost_15 : decode cX12_doPost 15 = .ok (.iconst 1, 1) := by decide +kernel
theorem dX12_doPost_16 : decode cX12_doPost 16 = .ok (.invokevirtual 88, 3) := by decide +kernel
theorem dX12_doPost_19 : decode cX12_doPost 19 = .ok (.ireturn, 1) := by decide +kernel
theorem dX12_doPost_20 : decode cX12_doPost 20 = .ok (.aload_n 0, 1) := by decide +kernel
theorem dX12_doPost_21 : decode cX12_doPost 21 = .ok (.iload_n 1, 1) := by decide +kernel
theorem dX12_doPost_22 : decode cX12_doPost 22 = .ok (.invokevirtual 91, 3) := by decide +kernel
theorem dX12_doPost_25 : decode cX12_doPost 25 = .ok (.ifCond .eq 11, 3) := by decide +kernel
theorem dX12_doPost_28 : decode cX12_doPost 28 = .ok (.aload_n 0, 1) := by decide +kernel
theorem dX12_doPost_29 : decode cX12_doPost 29 = .ok (.iconst 2, 1) := by decide +kernel
theorem dX12_doPost_30 : decode cX12_doPost 30 = .ok (.iconst 2, 1) := by decide +kernel
theorem dX12_doPost_31 : decode cX12_doPost 31 = .ok (.iload_n 1, 1) := by decide +kernel
theorem dX12_doPost_32 : decode cX12_doPost 32 = .ok (.invokevirtual 94, 3) := by decide +kernel
theorem dX12_doPost_35 : decode cX12_doPost 35 = .ok (.ireturn, 1) := by decide +kernel
theorem dX12_doPost_36 : decode cX12_doPost 36 = .ok (.aload_n 0, 1) := by decide +kernel
theorem dX12_doPost_37 : decode cX12_doPost 37 = .ok (.iload_n 1, 1) := by decide +kernel
theorem dX12_doPost_38 : decode cX12_doPost 38 = .ok (.invokevirtual 170, 3) := by decide +kernel
theorem dX12_doPost_41 : decode cX12_doPost 41 = .ok (.ifCond .lt 16, 3) := by decide +kernel
theorem dX12_doPost_44 : decode cX12_doPost 44 = .ok (.aload_n 0, 1) := by decide +kernel
theorem dX12_doPost_45 : decode cX12_doPost 45 = .ok (.iconst 2, 1) := by decide +kernel
theorem dX12_doPost_46 : decode cX12_doPost 46 = .ok (.bipush 7, 2) := by decide +kernel
theorem dX12_doPost_48 : decode cX12_doPost 48 = .ok (.aload_n 0, 1) := by decide +kernel
theorem dX12_doPost_49 : decode cX12_doPost 49 = .ok (.iload_n 1, 1) := by decide +kernel
theorem dX12_doPost_50 : decode cX12_doPost 50 = .ok (.invokevirtual 170, 3) := by decide +kernel
theorem dX12_doPost_53 : decode cX12_doPost 53 = .ok (.invokevirtual 94, 3) := by decide +kernel
theorem dX12_doPost_56 : decode cX12_doPost 56 = .ok (.ireturn, 1) := by decide +kernel
theorem dX12_doPost_57 : decode cX12_doPost 57 = .ok (.iload_n 2, 1) := by decide +kernel
theorem dX12_doPost_58 : decode cX12_doPost 58 = .ok (.iconst 4, 1) := by decide +kernel
theorem dX12_doPost_59 : decode cX12_doPost 59 = .ok (.if_icmp .ne 11, 3) := by decide +kernel
theorem dX12_doPost_62 : decode cX12_doPost 62 = .ok (.aload_n 0, 1) := by decide +kernel
theorem dX12_doPost_63 : decode cX12_doPost 63 = .ok (.iconst 2, 1) := by decide +kernel
theorem dX12_doPost_64 : decode cX12_doPost 64 = .ok (.iconst 1, 1) := by decide +kernel
theorem dX12_doPost_65 : decode cX12_doPost 65 = .ok (.iconst 4, 1) := by decide +kernel
theorem dX12_doPost_66 : decode cX12_doPost 66 = .ok (.invokevirtual 94, 3) := by decide +kernel
theorem dX12_doPost_69 : decode cX12_doPost 69 = .ok (.ireturn, 1) := by decide +kernel
theorem dX12_doPost_70 : decode cX12_doPost 70 = .ok (.aload_n 0, 1) := by decide +kernel
theorem dX12_doPost_71 : decode cX12_doPost 71 = .ok (.getfield 9, 3) := by decide +kernel
theorem dX12_doPost_74 : decode cX12_doPost 74 = .ok (.sipush 139, 3) := by decide +kernel
theorem dX12_doPost_77 : decode cX12_doPost 77 = .ok (.iconst 2, 1) := by decide +kernel
theorem dX12_doPost_78 : decode cX12_doPost 78 = .ok (.iload_n 2, 1) := by decide +kernel
theorem dX12_doPost_79 : decode cX12_doPost 79 = .ok (.imul, 1) := by decide +kernel
theorem dX12_doPost_80 : decode cX12_doPost 80 = .ok (.iadd, 1) := by decide +kernel
theorem dX12_doPost_81 : decode cX12_doPost 81 = .ok (.iload_n 1, 1) := by decide +kernel
theorem dX12_doPost_82 : decode cX12_doPost 82 = .ok (.iastore, 1) := by decide +kernel
theorem dX12_doPost_83 : decode cX12_doPost 83 = .ok (.aload_n 0, 1) := by decide +kernel
theorem dX12_doPost_84 : decode cX12_doPost 84 = .ok (.getfield 9, 3) := by decide +kernel
theorem dX12_doPost_87 : decode cX12_doPost 87 = .ok (.sipush 139, 3) := by decide +kernel
theorem dX12_doPost_90 : decode cX12_doPost 90 = .ok (.iconst 2, 1) := by decide +kernel
theorem dX12_doPost_91 : decode cX12_doPost 91 = .ok (.iload_n 2, 1) := by decide +kernel
theorem dX12_doPost_92 : decode cX12_doPost 92 = .ok (.imul, 1) := by decide +kernel
theorem dX12_doPost_93 : decode cX12_doPost 93 = .ok (.iadd, 1) := by decide +kernel
theorem dX12_doPost_94 : decode cX12_doPost 94 = .ok (.iconst 1, 1) := by decide +kernel
theorem dX12_doPost_95 : decode cX12_doPost 95 = .ok (.iadd, 1) := by decide +kernel
theorem dX12_doPost_96 : decode cX12_doPost 96 = .ok (.iconst (-1), 1) := by decide +kernel
theorem dX12_doPost_97 : decode cX12_doPost 97 = .ok (.iastore, 1) := by decide +kernel
theorem dX12_doPost_98 : decode cX12_doPost 98 = .ok (.aload_n 0, 1) := by decide +kernel
theorem dX12_doPost_99 : decode cX12_doPost 99 = .ok (.getfield 9, 3) := by decide +kernel
theorem dX12_doPost_102 : decode cX12_doPost 102 = .ok (.iconst 4, 1) := by decide +kernel
theorem dX12_doPost_103 : decode cX12_doPost 103 = .ok (.dup2, 1) := by decide +kernel
theorem dX12_doPost_104 : decode cX12_doPost 104 = .ok (.iaload, 1) := by decide +kernel
theorem dX12_doPost_105 : decode cX12_doPost 105 = .ok (.iconst 1, 1) := by decide +kernel
theorem dX12_doPost_106 : decode cX12_doPost 106 = .ok (.iadd, 1) := by decide +kernel
theorem dX12_doPost_107 : decode cX12_doPost 107 = .ok (.iastore, 1) := by decide +kernel
theorem dX12_doPost_108 : decode cX12_doPost 108 = .ok (.iload_n 2, 1) := by decide +kernel
theorem dX12_doPost_109 : decode cX12_doPost 109 = .ok (.ireturn, 1) := by decide +kernel
theorem k_X12_doPost : cardV yX12_doPost (Cond.code yX12_doPost cX12_doPost 3 (some .int)) 1 := ⟨⟨qi_X12_doPost, qv_X12_doPost⟩, qc_X12_doPost, qn_X12, by decide +kernel, by decide +kernel, by decide +kernel⟩
set_option maxHeartbeats 4000000 in
set_option maxRecDepth 100000 in
theorem c_X12_doPost (l : Launch) (D : va_G) (g : Nat → ClassId) (q_this q_s q_before q_saved q_past q_steps q_goes q_line q_text q_orders : Nat) (p1 : Int32) (f_isSaved : Int32) (f_pastMany : Int32) (f_thrown : Int32) (f_reason : Int32) (f_detail : Int32) (f_isRefused : Int32) (f_goesMany : Int32) (f_roundSteps : Int32) (f_lineMany : Int32) (f_length : Int32) (f_at : Int32) (f_isWrong : Int32) (f_errorAt : Int32) (f_orderMany : Int32) (a_s : Nat → Int32) (o : Int32 × Int32 × Int32 × Int32 × Int32 × (Nat → Int32)) (h : F_X12_doPost p1 f_thrown f_reason f_detail f_isRefused a_s = some o) : MW l yX12_doPost (Cond.code yX12_doPost cX12_doPost 3 (some .int)) { frames := 2, cells := 0, slots := 0, locals := 42 } D g [.ref q_this, .int p1] [(q_this, .inr (12, [.ref q_s, .ref q_before, .ref q_saved, .int f_isSaved, .ref q_past, .int f_pastMany, .int f_thrown, .int f_reason, .int f_detail, .int f_isRefused, .ref q_steps, .ref q_goes, .int f_goesMany, .int f_roundSteps, .ref q_line, .int f_lineMany, .ref q_text, .int f_length, .int f_at, .int f_isWrong, .int f_errorAt, .ref q_orders, .int f_orderMany])), (q_s, .inl (g 0, 147, .inl a_s))] (some (.int o.1)) [(q_this, .inr (12, [.ref q_s, .ref q_before, .ref q_saved, .int f_isSaved, .ref q_past, .int f_pastMany, .int o.2.1, .int o.2.2.1, .int o.2.2.2.1, .int o.2.2.2.2.1, .ref q_steps, .ref q_goes, .int f_goesMany, .int f_roundSteps, .ref q_line, .int f_lineMany, .ref q_text, .int f_length, .int f_at, .int f_isWrong, .int f_errorAt, .ref q_orders, .int f_orderMany])), (q_s, .inl (g 0, 147, .inl o.2.2.2.2.2))] := by
  refine z_wr_start (by decide) (Nat.le_of_ble_eq_true rfl) ?_
  intro p e s m args below meth c Q A X hr hQ hA
  refine z_lv (lv' := [(0, .ref q_this), (1, .int p1)]) rfl ?_
  refine z_aload_n X 0 dX12_doPost_0 rfl rfl ?_
  refine z_get (q0 := 0) (k := 0) (ci := 12) X IW_P iw_X12 rfl qf_X12_X12_s (by decide) dX12_doPost_1 rfl rfl ?_
  refine z_iconst X (4 : Int32) dX12_doPost_4 (by decide) ?_
  refine z_iald (q0 := 1) X IW_P dX12_doPost_5 rfl h (fun h => ?_)
  refine z_istore_n X [(2, .int (a_s (4 : Int32).toNatClampNeg)), (0, .ref q_this), (1, .int p1)] dX12_doPost_6 rfl (by decide) rfl ?_
  refine z_iload_n X 2 dX12_doPost_7 rfl rfl ?_
  obtain ⟨o1, e2, h⟩ := bnd_p h
  refine z_rdS (rest := []) X IW_P k_X12_isCell (c_X12_isCell l D g p1 o1 e2) ql_X12_X12_isCell dX12_doPost_8 [] rfl rfl rfl ⟨Nat.le_of_ble_eq_true rfl, Nat.le_of_ble_eq_true rfl, rfl, rfl, Nat.le_of_ble_eq_true rfl, Nat.le_of_ble_eq_true rfl⟩ (Nat.le_of_ble_eq_true rfl) ?_
  refine z_if_ne X 20 dX12_doPost_11 (by decide) h (fun _ h => ?_) (fun _ h => ?_)
  · refine z_aload_n X 1 dX12_doPost_14 rfl rfl ?_
    refine z_iconst X (1 : Int32) dX12_doPost_15 (by decide) ?_
    obtain ⟨o3, e4, h⟩ := bnd_p h
    refine z_wrV (rest := []) (q0 := 0) (ci := 12) (ws' := [(q_this, .inr (12, [.ref q_s, .ref q_before, .ref q_saved, .int f_isSaved, .ref q_past, .int f_pastMany, .int o3.2, .int f_reason, .int f_detail, .int f_isRefused, .ref q_steps, .ref q_goes, .int f_goesMany, .int f_roundSteps, .ref q_line, .int f_lineMany, .ref q_text, .int f_length, .int f_at, .int f_isWrong, .int f_errorAt, .ref q_orders, .int f_orderMany])), (q_s, .inl (g 0, 147, .inl a_s))]) (wr := [(q_s, .inl (g 0, 147, .inl a_s))]) (as := [q_this, q_s]) X k_X12_fails (c_X12_fails l D g q_this q_s q_before q_saved q_past q_steps q_goes q_line q_text q_orders (1 : Int32) f_isSaved f_pastMany f_thrown f_reason f_detail f_isRefused f_goesMany f_roundSteps f_lineMany f_length f_at f_isWrong f_errorAt f_orderMany o3 e4) ql_X12_X12_fails dX12_doPost_16 [0] [1] ⟨rfl, rfl, rfl, rfl, rfl, rfl, rfl, rfl⟩ rfl rfl rfl rfl rfl ⟨Nat.le_of_ble_eq_true rfl, Nat.le_of_ble_eq_true rfl, rfl, rfl, Nat.le_of_ble_eq_true rfl, Nat.le_of_ble_eq_true rfl⟩ (Nat.le_of_ble_eq_true rfl) ?_
    cases h
    exact z_iretW X hQ hA hr dX12_doPost_19
  · refine z_aload_n X 1 dX12_doPost_20 rfl rfl ?_
    refine z_iload_n X 2 dX12_doPost_21 rfl rfl ?_
    obtain ⟨o5, e6, h⟩ := bnd_p h
    refine z_rdV (rest := []) (q0 := 0) (ci := 12) X IW_P k_X12_isBlocked (c_X12_isBlocked l D g q_this q_s q_before q_saved q_past q_steps q_goes q_line q_text q_orders p1 f_isSaved f_pastMany f_thrown f_reason f_detail f_isRefused f_goesMany f_roundSteps f_lineMany f_length f_at f_isWrong f_errorAt f_orderMany a_s o5 e6) ql_X12_X12_isBlocked dX12_doPost_22 [0, 1] rfl rfl rfl rfl rfl rfl ⟨Nat.le_of_ble_eq_true rfl, Nat.le_of_ble_eq_true rfl, rfl, rfl, Nat.le_of_ble_eq_true rfl, Nat.le_of_ble_eq_true rfl⟩ (Nat.le_of_ble_eq_true rfl) ?_
    refine z_if_eq X 36 dX12_doPost_25 (by decide) h (fun _ h => ?_) (fun _ h => ?_)
    · refine z_aload_n X 1 dX12_doPost_36 rfl rfl ?_
      refine z_iload_n X 2 dX12_doPost_37 rfl rfl ?_
      obtain ⟨o7, e8, h⟩ := bnd_p h
      refine z_rdV (rest := []) (q0 := 0) (ci := 12) X IW_P k_X12_postOn (c_X12_postOn l D g q_this q_s q_before q_saved q_past q_steps q_goes q_line q_text q_orders p1 f_isSaved f_pastMany f_thrown f_reason f_detail f_isRefused f_goesMany f_roundSteps f_lineMany f_length f_at f_isWrong f_errorAt f_orderMany a_s o7 e8) ql_X12_X12_postOn dX12_doPost_38 [0, 1] rfl rfl rfl rfl rfl rfl ⟨Nat.le_of_ble_eq_true rfl, Nat.le_of_ble_eq_true rfl, rfl, rfl, Nat.le_of_ble_eq_true rfl, Nat.le_of_ble_eq_true rfl⟩ (Nat.le_of_ble_eq_true rfl) ?_
      refine z_if_lt X 57 dX12_doPost_41 (by decide) h (fun _ h => ?_) (fun _ h => ?_)
      · refine z_iload_n X 0 dX12_doPost_57 rfl rfl ?_
        refine z_iconst X (4 : Int32) dX12_doPost_58 (by decide) ?_
        refine z_icmp_ne X 70 dX12_doPost_59 (by decide) h (fun _ h => ?_) (fun _ h => ?_)
        · refine z_aload_n X 1 dX12_doPost_62 rfl rfl ?_
          refine z_iconst X (2 : Int32) dX12_doPost_63 (by decide) ?_
          refine z_iconst X (1 : Int32) dX12_doPost_64 (by decide) ?_
          refine z_iconst X (4 : Int32) dX12_doPost_65 (by decide) ?_
          obtain ⟨o9, e10, h⟩ := bnd_p h
          refine z_wrV (rest := []) (q0 := 0) (ci := 12) (ws' := [(q_this, .inr (12, [.ref q_s, .ref q_before, .ref q_saved, .int f_isSaved, .ref q_past, .int f_pastMany, .int o9.2.1, .int o9.2.2.1, .int o9.2.2.2.1, .int o9.2.2.2.2, .ref q_steps, .ref q_goes, .int f_goesMany, .int f_roundSteps, .ref q_line, .int f_lineMany, .ref q_text, .int f_length, .int f_at, .int f_isWrong, .int f_errorAt, .ref q_orders, .int f_orderMany])), (q_s, .inl (g 0, 147, .inl a_s))]) (wr := [(q_s, .inl (g 0, 147, .inl a_s))]) (as := [q_this, q_s]) X k_X12_refuse (c_X12_refuse l D g q_this q_s q_before q_saved q_past q_steps q_goes q_line q_text q_orders (2 : Int32) (1 : Int32) (4 : Int32) f_isSaved f_pastMany f_thrown f_reason f_detail f_isRefused f_goesMany f_roundSteps f_lineMany f_length f_at f_isWrong f_errorAt f_orderMany o9 e10) ql_X12_X12_refuse dX12_doPost_66 [0] [1] ⟨rfl, rfl, rfl, rfl, rfl, rfl, rfl, rfl⟩ rfl rfl rfl rfl rfl ⟨Nat.le_of_ble_eq_true rfl, Nat.le_of_ble_eq_true rfl, rfl, rfl, Nat.le_of_ble_eq_true rfl, Nat.le_of_ble_eq_true rfl⟩ (Nat.le_of_ble_eq_true rfl) ?_
          cases h
          exact z_iretW X hQ hA hr dX12_doPost_69
        · refine z_aload_n X 1 dX12_doPost_70 rfl rfl ?_
          refine z_get (q0 := 0) (k := 0) (ci := 12) X IW_P iw_X12 rfl qf_X12_X12_s (by decide) dX12_doPost_71 rfl rfl ?_
          refine z_sipush X (139 : Int32) dX12_doPost_74 (by decide) ?_
          refine z_iconst X (2 : Int32) dX12_doPost_77 (by decide) ?_
          refine z_iload_n X 0 dX12_doPost_78 rfl rfl ?_
          refine z_imul X dX12_doPost_79 ?_
          refine z_iadd X dX12_doPost_80 ?_
          refine z_iload_n X 2 dX12_doPost_81 rfl rfl ?_
          refine z_iast (q0 := 1) (ws' := [(q_this, .inr (12, [.ref q_s, .ref q_before, .ref q_saved, .int f_isSaved, .ref q_past, .int f_pastMany, .int f_thrown, .int f_reason, .int f_detail, .int f_isRefused, .ref q_steps, .ref q_goes, .int f_goesMany, .int f_roundSteps, .ref q_line, .int f_lineMany, .ref q_text, .int f_length, .int f_at, .int f_isWrong, .int f_errorAt, .ref q_orders, .int f_orderMany])), (q_s, .inl (g 0, 147, .inl (upd a_s ((139 : Int32) + ((2 : Int32) * (a_s (4 : Int32).toNatClampNeg))).toNatClampNeg p1)))]) X dX12_doPost_82 rfl h rfl (fun h => ?_)
          refine z_aload_n X 1 dX12_doPost_83 rfl rfl ?_
          refine z_get (q0 := 0) (k := 0) (ci := 12) X IW_P iw_X12 rfl qf_X12_X12_s (by decide) dX12_doPost_84 rfl rfl ?_
          refine z_sipush X (139 : Int32) dX12_doPost_87 (by decide) ?_
          refine z_iconst X (2 : Int32) dX12_doPost_90 (by decide) ?_
          refine z_iload_n X 0 dX12_doPost_91 rfl rfl ?_
          refine z_imul X dX12_doPost_92 ?_
          refine z_iadd X dX12_doPost_93 ?_
          refine z_iconst X (1 : Int32) dX12_doPost_94 (by decide) ?_
          refine z_iadd X dX12_doPost_95 ?_
          refine z_iconst X ((-1) : Int32) dX12_doPost_96 (by decide) ?_
          refine z_iast (q0 := 1) (ws' := [(q_this, .inr (12, [.ref q_s, .ref q_before, .ref q_saved, .int f_isSaved, .ref q_past, .int f_pastMany, .int f_thrown, .int f_reason, .int f_detail, .int f_isRefused, .ref q_steps, .ref q_goes, .int f_goesMany, .int f_roundSteps, .ref q_line, .int f_lineMany, .ref q_text, .int f_length, .int f_at, .int f_isWrong, .int f_errorAt, .ref q_orders, .int f_orderMany])), (q_s, .inl (g 0, 147, .inl (upd (upd a_s ((139 : Int32) + ((2 : Int32) * (a_s (4 : Int32).toNatClampNeg))).toNatClampNeg p1) (((139 : Int32) + ((2 : Int32) * (a_s (4 : Int32).toNatClampNeg))) + (1 : Int32)).toNatClampNeg ((-1) : Int32))))]) X dX12_doPost_97 rfl h rfl (fun h => ?_)
          refine z_aload_n X 1 dX12_doPost_98 rfl rfl ?_
          refine z_get (q0 := 0) (k := 0) (ci := 12) X IW_P iw_X12 rfl qf_X12_X12_s (by decide) dX12_doPost_99 rfl rfl ?_
          refine z_iconst X (4 : Int32) dX12_doPost_102 (by decide) ?_
          refine z_dup2 X dX12_doPost_103 rfl rfl ?_
          refine z_iald (q0 := 1) X IW_P dX12_doPost_104 rfl h (fun h => ?_)
          refine z_iconst X (1 : Int32) dX12_doPost_105 (by decide) ?_
          refine z_iadd X dX12_doPost_106 ?_
          refine z_iast (q0 := 1) (ws' := [(q_this, .inr (12, [.ref q_s, .ref q_before, .ref q_saved, .int f_isSaved, .ref q_past, .int f_pastMany, .int f_thrown, .int f_reason, .int f_detail, .int f_isRefused, .ref q_steps, .ref q_goes, .int f_goesMany, .int f_roundSteps, .ref q_line, .int f_lineMany, .ref q_text, .int f_length, .int f_at, .int f_isWrong, .int f_errorAt, .ref q_orders, .int f_orderMany])), (q_s, .inl (g 0, 147, .inl (upd (upd (upd a_s ((139 : Int32) + ((2 : Int32) * (a_s (4 : Int32).toNatClampNeg))).toNatClampNeg p1) (((139 : Int32) + ((2 : Int32) * (a_s (4 : Int32).toNatClampNeg))) + (1 : Int32)).toNatClampNeg ((-1) : Int32)) (4 : Int32).toNatClampNeg (((upd (upd a_s ((139 : Int32) + ((2 : Int32) * (a_s (4 : Int32).toNatClampNeg))).toNatClampNeg p1) (((139 : Int32) + ((2 : Int32) * (a_s (4 : Int32).toNatClampNeg))) + (1 : Int32)).toNatClampNeg ((-1) : Int32)) (4 : Int32).toNatClampNeg) + (1 : Int32)))))]) X dX12_doPost_107 rfl h rfl (fun h => ?_)
          refine z_iload_n X 0 dX12_doPost_108 rfl rfl ?_
          cases h
          exact z_iretW X hQ hA hr dX12_doPost_109
      · refine z_aload_n X 1 dX12_doPost_44 rfl rfl ?_
        refine z_iconst X (2 : Int32) dX12_doPost_45 (by decide) ?_
        refine z_bipush X (7 : Int32) dX12_doPost_46 (by decide) ?_
        refine z_aload_n X 1 dX12_doPost_48 rfl rfl ?_
        refine z_iload_n X 2 dX12_doPost_49 rfl rfl ?_
        obtain ⟨o11, e12, h⟩ := bnd_p h
        refine z_rdV (rest := [.int (7 : Int32), .int (2 : Int32), .ref q_this]) (q0 := 0) (ci := 12) X IW_P k_X12_postOn (c_X12_postOn l D g q_this q_s q_before q_saved q_past q_steps q_goes q_line q_text q_orders p1 f_isSaved f_pastMany f_thrown f_reason f_detail f_isRefused f_goesMany f_roundSteps f_lineMany f_length f_at f_isWrong f_errorAt f_orderMany a_s o11 e12) ql_X12_X12_postOn dX12_doPost_50 [0, 1] rfl rfl rfl rfl rfl rfl ⟨Nat.le_of_ble_eq_true rfl, Nat.le_of_ble_eq_true rfl, rfl, rfl, Nat.le_of_ble_eq_true rfl, Nat.le_of_ble_eq_true rfl⟩ (Nat.le_of_ble_eq_true rfl) ?_
        obtain ⟨o13, e14, h⟩ := bnd_p h
        refine z_wrV (rest := []) (q0 := 0) (ci := 12) (ws' := [(q_this, .inr (12, [.ref q_s, .ref q_before, .ref q_saved, .int f_isSaved, .ref q_past, .int f_pastMany, .int o13.2.1, .int o13.2.2.1, .int o13.2.2.2.1, .int o13.2.2.2.2, .ref q_steps, .ref q_goes, .int f_goesMany, .int f_roundSteps, .ref q_line, .int f_lineMany, .ref q_text, .int f_length, .int f_at, .int f_isWrong, .int f_errorAt, .ref q_orders, .int f_orderMany])), (q_s, .inl (g 0, 147, .inl a_s))]) (wr := [(q_s, .inl (g 0, 147, .inl a_s))]) (as := [q_this, q_s]) X k_X12_refuse (c_X12_refuse l D g q_this q_s q_before q_saved q_past q_steps q_goes q_line q_text q_orders (2 : Int32) (7 : Int32) o11 f_isSaved f_pastMany f_thrown f_reason f_detail f_isRefused f_goesMany f_roundSteps f_lineMany f_length f_at f_isWrong f_errorAt f_orderMany o13 e14) ql_X12_X12_refuse dX12_doPost_53 [0] [1] ⟨rfl, rfl, rfl, rfl, rfl, rfl, rfl, rfl⟩ rfl rfl rfl rfl rfl ⟨Nat.le_of_ble_eq_true rfl, Nat.le_of_ble_eq_true rfl, rfl, rfl, Nat.le_of_ble_eq_true rfl, Nat.le_of_ble_eq_true rfl⟩ (Nat.le_of_ble_eq_true rfl) ?_
        cases h
        exact z_iretW X hQ hA hr dX12_doPost_56
    · refine z_aload_n X 1 dX12_doPost_28 rfl rfl ?_
      refine z_iconst X (2 : Int32) dX12_doPost_29 (by decide) ?_
      refine z_iconst X (2 : Int32) dX12_doPost_30 (by decide) ?_
      refine z_iload_n X 2 dX12_doPost_31 rfl rfl ?_
      obtain ⟨o15, e16, h⟩ := bnd_p h
      refine z_wrV (rest := []) (q0 := 0) (ci := 12) (ws' := [(q_this, .inr (12, [.ref q_s, .ref q_before, .ref q_saved, .int f_isSaved, .ref q_past, .int f_pastMany, .int o15.2.1, .int o15.2.2.1, .int o15.2.2.2.1, .int o15.2.2.2.2, .ref q_steps, .ref q_goes, .int f_goesMany, .int f_roundSteps, .ref q_line, .int f_lineMany, .ref q_text, .int f_length, .int f_at, .int f_isWrong, .int f_errorAt, .ref q_orders, .int f_orderMany])), (q_s, .inl (g 0, 147, .inl a_s))]) (wr := [(q_s, .inl (g 0, 147, .inl a_s))]) (as := [q_this, q_s]) X k_X12_refuse (c_X12_refuse l D g q_this q_s q_before q_saved q_past q_steps q_goes q_line q_text q_orders (2 : Int32) (2 : Int32) p1 f_isSaved f_pastMany f_thrown f_reason f_detail f_isRefused f_goesMany f_roundSteps f_lineMany f_length f_at f_isWrong f_errorAt f_orderMany o15 e16) ql_X12_X12_refuse dX12_doPost_32 [0] [1] ⟨rfl, rfl, rfl, rfl, rfl, rfl, rfl, rfl⟩ rfl rfl rfl rfl rfl ⟨Nat.le_of_ble_eq_true rfl, Nat.le_of_ble_eq_true rfl, rfl, rfl, Nat.le_of_ble_eq_true rfl, Nat.le_of_ble_eq_true rfl⟩ (Nat.le_of_ble_eq_true rfl) ?_
      cases h
      exact z_iretW X hQ hA hr dX12_doPost_35

def F_X12_post (p1 : Int32) (f_pastMany : Int32) (f_thrown : Int32) (f_reason : Int32) (f_detail : Int32) (f_isRefused : Int32) (a_s : Nat → Int32) (a_before : Nat → Int32) (a_past : Nat → Int32) : Option (Int32 × Int32 × Int32 × Int32 × Int32 × Int32 × (Nat → Int32) × (Nat → Int32) × (Nat → Int32)) :=
  bnd (F_X12_keep a_s f_thrown a_before) (fun o1 => bnd (F_X12_doPost p1 o1.1 f_reason f_detail f_isRefused a_s) (fun o3 => bnd (F_X12_ends o3.1 o3.2.1 o1.2 f_pastMany o3.2.2.2.2.2 a_past) (fun o5 => some (o5.1, o5.2.1, o3.2.1, o3.2.2.1, o3.2.2.2.1, o3.2.2.2.2.1, o5.2.2.1, o1.2, o5.2.2.2))))
theorem dX12_post_0 : decode cX12_post 0 = .ok (.aload_n 0, 1) := by decide +kernel
theorem dX12_post_1 : decode cX12_post 1 = .ok (.invokevirtual 101, 3) := by decide +kernel
theorem dX12_post_4 : decode cX12_post 4 = .ok (.aload_n 0, 1) := by decide +kernel
theorem dX12_post_5 : decode cX12_post 5 = .ok (.aload_n 0, 1) := by decide +kernel
theorem dX12_post_6 : decode cX12_post 6 = .ok (.iload_n 1, 1) := by decide +kernel
theorem dX12_post_7 : decode cX12_post 7 = .ok (.invokevirtual 173, 3) := by decide +kernel
theorem dX12_post_10 : decode cX12_post 10 = .ok (.invokevirtual 107, 3) := by decide +kernel
theorem dX12_post_13 : decode cX12_post 13 = .ok (.ireturn, 1) := by decide +kernel
theorem k_X12_post : cardV yX12_post (Cond.code yX12_post cX12_post 2 (some .int)) 1 := ⟨⟨qi_X12_post, qv_X12_post⟩, qc_X12_post, qn_X12, by decide +kernel, by decide +kernel, by decide +kernel⟩
set_option maxHeartbeats 4000000 in
set_option maxRecDepth 100000 in
theorem c_X12_post (l : Launch) (D : va_G) (g : Nat → ClassId) (q_this q_s q_before q_saved q_past q_steps q_goes q_line q_text q_orders : Nat) (p1 : Int32) (f_isSaved : Int32) (f_pastMany : Int32) (f_thrown : Int32) (f_reason : Int32) (f_detail : Int32) (f_isRefused : Int32) (f_goesMany : Int32) (f_roundSteps : Int32) (f_lineMany : Int32) (f_length : Int32) (f_at : Int32) (f_isWrong : Int32) (f_errorAt : Int32) (f_orderMany : Int32) (a_s : Nat → Int32) (a_before : Nat → Int32) (a_past : Nat → Int32) (o : Int32 × Int32 × Int32 × Int32 × Int32 × Int32 × (Nat → Int32) × (Nat → Int32) × (Nat → Int32)) (h : F_X12_post p1 f_pastMany f_thrown f_reason f_detail f_isRefused a_s a_before a_past = some o) : MW l yX12_post (Cond.code yX12_post cX12_post 2 (some .int)) { frames := 3, cells := 0, slots := 0, locals := 64 } D g [.ref q_this, .int p1] [(q_this, .inr (12, [.ref q_s, .ref q_before, .ref q_saved, .int f_isSaved, .ref q_past, .int f_pastMany, .int f_thrown, .int f_reason, .int f_detail, .int f_isRefused, .ref q_steps, .ref q_goes, .int f_goesMany, .int f_roundSteps, .ref q_line, .int f_lineMany, .ref q_text, .int f_length, .int f_at, .int f_isWrong, .int f_errorAt, .ref q_orders, .int f_orderMany])), (q_s, .inl (g 0, 147, .inl a_s)), (q_before, .inl (g 0, 147, .inl a_before)), (q_past, .inl (g 0, 1176, .inl a_past))] (some (.int o.1)) [(q_this, .inr (12, [.ref q_s, .ref q_before, .ref q_saved, .int f_isSaved, .ref q_past, .int o.2.1, .int o.2.2.1, .int o.2.2.2.1, .int o.2.2.2.2.1, .int o.2.2.2.2.2.1, .ref q_steps, .ref q_goes, .int f_goesMany, .int f_roundSteps, .ref q_line, .int f_lineMany, .ref q_text, .int f_length, .int f_at, .int f_isWrong, .int f_errorAt, .ref q_orders, .int f_orderMany])), (q_s, .inl (g 0, 147, .inl o.2.2.2.2.2.2.1)), (q_before, .inl (g 0, 147, .inl o.2.2.2.2.2.2.2.1)), (q_past, .inl (g 0, 1176, .inl o.2.2.2.2.2.2.2.2))] := by
  refine z_wr_start (by decide) (Nat.le_of_ble_eq_true rfl) ?_
  intro p e s m args below meth c Q A X hr hQ hA
  refine z_lv (lv' := [(0, .ref q_this), (1, .int p1)]) rfl ?_
  refine z_aload_n X 0 dX12_post_0 rfl rfl ?_
  obtain ⟨o1, e2, h⟩ := bnd_p h
  refine z_wrV (rest := []) (q0 := 0) (ci := 12) (ws' := [(q_this, .inr (12, [.ref q_s, .ref q_before, .ref q_saved, .int f_isSaved, .ref q_past, .int f_pastMany, .int o1.1, .int f_reason, .int f_detail, .int f_isRefused, .ref q_steps, .ref q_goes, .int f_goesMany, .int f_roundSteps, .ref q_line, .int f_lineMany, .ref q_text, .int f_length, .int f_at, .int f_isWrong, .int f_errorAt, .ref q_orders, .int f_orderMany])), (q_s, .inl (g 0, 147, .inl a_s)), (q_before, .inl (g 0, 147, .inl o1.2)), (q_past, .inl (g 0, 1176, .inl a_past))]) (wr := [(q_past, .inl (g 0, 1176, .inl a_past))]) (as := [q_this, q_s, q_before, q_past]) X k_X12_keep (c_X12_keep l D g q_this q_s q_before q_saved q_past q_steps q_goes q_line q_text q_orders f_isSaved f_pastMany f_thrown f_reason f_detail f_isRefused f_goesMany f_roundSteps f_lineMany f_length f_at f_isWrong f_errorAt f_orderMany a_s a_before o1 e2) ql_X12_X12_keep dX12_post_1 [0, 1, 2] [3] ⟨rfl, rfl, rfl, rfl, rfl, rfl, rfl, rfl⟩ rfl rfl rfl rfl rfl ⟨Nat.le_of_ble_eq_true rfl, Nat.le_of_ble_eq_true rfl, rfl, rfl, Nat.le_of_ble_eq_true rfl, Nat.le_of_ble_eq_true rfl⟩ (Nat.le_of_ble_eq_true rfl) ?_
  refine z_aload_n X 0 dX12_post_4 rfl rfl ?_
  refine z_aload_n X 0 dX12_post_5 rfl rfl ?_
  refine z_iload_n X 1 dX12_post_6 rfl rfl ?_
  obtain ⟨o3, e4, h⟩ := bnd_p h
  refine z_wrV (rest := [.ref q_this]) (q0 := 0) (ci := 12) (ws' := [(q_this, .inr (12, [.ref q_s, .ref q_before, .ref q_saved, .int f_isSaved, .ref q_past, .int f_pastMany, .int o3.2.1, .int o3.2.2.1, .int o3.2.2.2.1, .int o3.2.2.2.2.1, .ref q_steps, .ref q_goes, .int f_goesMany, .int f_roundSteps, .ref q_line, .int f_lineMany, .ref q_text, .int f_length, .int f_at, .int f_isWrong, .int f_errorAt, .ref q_orders, .int f_orderMany])), (q_s, .inl (g 0, 147, .inl o3.2.2.2.2.2)), (q_before, .inl (g 0, 147, .inl o1.2)), (q_past, .inl (g 0, 1176, .inl a_past))]) (wr := [(q_before, .inl (g 0, 147, .inl o1.2)), (q_past, .inl (g 0, 1176, .inl a_past))]) (as := [q_this, q_s, q_before, q_past]) X k_X12_doPost (c_X12_doPost l D g q_this q_s q_before q_saved q_past q_steps q_goes q_line q_text q_orders p1 f_isSaved f_pastMany o1.1 f_reason f_detail f_isRefused f_goesMany f_roundSteps f_lineMany f_length f_at f_isWrong f_errorAt f_orderMany a_s o3 e4) ql_X12_X12_doPost dX12_post_7 [0, 1] [2, 3] ⟨rfl, rfl, rfl, rfl, rfl, rfl, rfl, rfl⟩ rfl rfl rfl rfl rfl ⟨Nat.le_of_ble_eq_true rfl, Nat.le_of_ble_eq_true rfl, rfl, rfl, Nat.le_of_ble_eq_true rfl, Nat.le_of_ble_eq_true rfl⟩ (Nat.le_of_ble_eq_true rfl) ?_
  obtain ⟨o5, e6, h⟩ := bnd_p h
  refine z_wrV (rest := []) (q0 := 0) (ci := 12) (ws' := [(q_this, .inr (12, [.ref q_s, .ref q_before, .ref q_saved, .int f_isSaved, .ref q_past, .int o5.2.1, .int o3.2.1, .int o3.2.2.1, .int o3.2.2.2.1, .int o3.2.2.2.2.1, .ref q_steps, .ref q_goes, .int f_goesMany, .int f_roundSteps, .ref q_line, .int f_lineMany, .ref q_text, .int f_length, .int f_at, .int f_isWrong, .int f_errorAt, .ref q_orders, .int f_orderMany])), (q_s, .inl (g 0, 147, .inl o5.2.2.1)), (q_before, .inl (g 0, 147, .inl o1.2)), (q_past, .inl (g 0, 1176, .inl o5.2.2.2))]) (wr := []) (as := [q_this, q_s, q_before, q_past]) X k_X12_ends (c_X12_ends l D g q_this q_s q_before q_saved q_past q_steps q_goes q_line q_text q_orders o3.1 f_isSaved f_pastMany o3.2.1 o3.2.2.1 o3.2.2.2.1 o3.2.2.2.2.1 f_goesMany f_roundSteps f_lineMany f_length f_at f_isWrong f_errorAt f_orderMany o3.2.2.2.2.2 o1.2 a_past o5 e6) ql_X12_X12_ends dX12_post_10 [0, 1, 2, 3] [] ⟨rfl, rfl, rfl, rfl, rfl, rfl, rfl, rfl⟩ rfl rfl rfl rfl rfl ⟨Nat.le_of_ble_eq_true rfl, Nat.le_of_ble_eq_true rfl, rfl, rfl, Nat.le_of_ble_eq_true rfl, Nat.le_of_ble_eq_true rfl⟩ (Nat.le_of_ble_eq_true rfl) ?_
  cases h
  exact z_iretW X hQ hA hr dX12_post_13

def F_X12_doDropPost (p1 : Int32) (f_thrown : Int32) (a_s : Nat → Int32) : Option (Int32 × Int32 × (Nat → Int32)) :=
  bnd (F_X12_isPost p1 a_s) (fun o1 => brn (o1 = 0) (bnd (F_X12_fails (1 : Int32) f_thrown) (fun o3 => some (o3.1, o3.2, a_s))) (grd (inb (4 : Int32) 147) (grd (cpyok ((139 : Int32) + ((2 : Int32) * (p1 + (1 : Int32)))) ((139 : Int32) + ((2 : Int32) * p1)) ((2 : Int32) * (((a_s (4 : Int32).toNatClampNeg) - (1 : Int32)) - p1)) 147 147) (grd (inb (4 : Int32) 147) (some ((a_s (4 : Int32).toNatClampNeg) - (1 : Int32), f_thrown, (upd (va_cpy a_s a_s ((139 : Int32) + ((2 : Int32) * (p1 + (1 : Int32)))).toNatClampNeg ((139 : Int32) + ((2 : Int32) * p1)).toNatClampNeg ((2 : Int32) * (((a_s (4 : Int32).toNatClampNeg) - (1 : Int32)) - p1)).toNatClampNeg) (4 : Int32).toNatClampNeg ((a_s (4 : Int32).toNatClampNeg) - (1 : Int32)))))))))
theorem dX12_doDropPost_0 : decode cX12_doDropPost 0 = .ok (.aload_n 0, 1) := by decide +kernel
theorem dX12_doDropPost_1 : decode cX12_doDropPost 1 = .ok (.iload_n 1, 1) := by decide +kernel
theorem dX12_doDropPost_2 : decode cX12_doDropPost 2 = .ok (.invokevirtual 176, 3) := by decide +kernel
theorem dX12_doDropPost_5 : decode cX12_doDropPost 5 = .ok (.ifCond .ne 9, 3) := by decide +kernel
theorem dX12_doDropPost_8 : decode cX12_doDropPost 8 = .ok (.aload_n 0, 1) := by decide +kernel
theorem dX12_doDropPost_9 : decode cX12_doDropPost 9 = .ok (.iconst 1, 1) := by decide +kernel
theorem dX12_doDropPost_10 : decode cX12_doDropPost 10 = .ok (.invokevirtual 88, 3) := by decide +kernel
theorem dX12_doDropPost_13 : decode cX12_doDropPost 13 = .ok (.ireturn, 1) := by decide +kernel
theorem dX12_doDropPost_14 : decode cX12_doDropPost 14 = .ok (.aload_n 0, 1) := by decide +kernel
theorem dX12_doDropPost_15 : decode cX12_doDropPost 15 = .ok (.getfield 9, 3) := by decide +kernel
theorem dX12_doDropPost_18 : decode cX12_doDropPost 18 = .ok (.iconst 4, 1) := by decide +kernel
theorem dX12_doDropPost_19 : decode cX12_doDropPost 19 = .ok (.iaload, 1) := by decide +kernel
theorem dX12_doDropPost_20 : decode cX12_doDropPost 20 = .ok (.iconst 1, 1) := by decide +kernel
theorem dX12_doDropPost_21 : decode cX12_doDropPost 21 = .ok (.isub, 1) := by decide +kernel
theorem dX12_doDropPost_22 : decode cX12_doDropPost 22 = .ok (.istore_n 2, 1) := by decide +kernel
theorem dX12_doDropPost_23 : decode cX12_doDropPost 23 = .ok (.aload_n 0, 1) := by decide +kernel
theorem dX12_doDropPost_24 : decode cX12_doDropPost 24 = .ok (.getfield 9, 3) := by decide +kernel
theorem dX12_doDropPost_27 : decode cX12_doDropPost 27 = .ok (.sipush 139, 3) := by decide +kernel
theorem dX12_doDropPost_30 : decode cX12_doDropPost 30 = .ok (.iconst 2, 1) := by decide +kernel
theorem dX12_doDropPost_31 : decode cX12_doDropPost 31 = .ok (.iload_n 1, 1) := by decide +kernel
theorem dX12_doDropPost_32 : decode cX12_doDropPost 32 = .ok (.iconst 1, 1) := by decide +kernel
theorem dX12_doDropPost_33 : decode cX12_doDropPost 33 = .ok (.iadd, 1) := by decide +kernel
theorem dX12_doDropPost_34 : decode cX12_doDropPost 34 = .ok (.imul, 1) := by decide +kernel
theorem dX12_doDropPost_35 : decode cX12_doDropPost 35 = .ok (.iadd, 1) := by decide +kernel
theorem dX12_doDropPost_36 : decode cX12_doDropPost 36 = .ok (.aload_n 0, 1) := by decide +kernel
theorem dX12_doDropPost_37 : decode cX12_doDropPost 37 = .ok (.getfield 9, 3) := by decide +kernel
theorem dX12_doDropPost_40 : decode cX12_doDropPost 40 = .ok (.sipush 139, 3) := by decide +kernel
theorem dX12_doDropPost_43 : decode cX12_doDropPost 43 = .ok (.iconst 2, 1) := by decide +kernel
theorem dX12_doDropPost_44 : decode cX12_doDropPost 44 = .ok (.iload_n 1, 1) := by decide +kernel
theorem dX12_doDropPost_45 : decode cX12_doDropPost 45 = .ok (.imul, 1) := by decide +kernel
theorem dX12_doDropPost_46 : decode cX12_doDropPost 46 = .ok (.iadd, 1) := by decide +kernel
theorem dX12_doDropPost_47 : decode cX12_doDropPost 47 = .ok (.iconst 2, 1) := by decide +kernel
theorem dX12_doDropPost_48 : decode cX12_doDropPost 48 = .ok (.iload_n 2, 1) := by decide +kernel
theorem dX12_doDropPost_49 : decode cX12_doDropPost 49 = .ok (.iload_n 1, 1) := by decide +kernel
theorem dX12_doDropPost_50 : decode cX12_doDropPost 50 = .ok (.isub, 1) := by decide +kernel
theorem dX12_doDropPost_51 : decode cX12_doDropPost 51 = .ok (.imul, 1) := by decide +kernel
theorem dX12_doDropPost_52 : decode cX12_doDropPost 52 = .ok (.invokestatic 45, 3) := by decide +kernel
theorem dX12_doDropPost_55 : decode cX12_doDropPost 55 = .ok (.aload_n 0, 1) := by decide +kernel
theorem dX12_doDropPost_56 : decode cX12_doDropPost 56 = .ok (.getfield 9, 3) := by decide +kernel
theorem dX12_doDropPost_59 : decode cX12_doDropPost 59 = .ok (.iconst 4, 1) := by decide +kernel
theorem dX12_doDropPost_60 : decode cX12_doDropPost 60 = .ok (.iload_n 2, 1) := by decide +kernel
theorem dX12_doDropPost_61 : decode cX12_doDropPost 61 = .ok (.iastore, 1) := by decide +kernel
theorem dX12_doDropPost_62 : decode cX12_doDropPost 62 = .ok (.iload_n 2, 1) := by decide +kernel
theorem dX12_doDropPost_63 : decode cX12_doDropPost 63 = .ok (.ireturn, 1) := by decide +kernel
theorem k_X12_doDropPost : cardV yX12_doDropPost (Cond.code yX12_doDropPost cX12_doDropPost 3 (some .int)) 1 := ⟨⟨qi_X12_doDropPost, qv_X12_doDropPost⟩, qc_X12_doDropPost, qn_X12, by decide +kernel, by decide +kernel, by decide +kernel⟩
set_option maxHeartbeats 4000000 in
set_option maxRecDepth 100000 in
theorem c_X12_doDropPost (l : Launch) (D : va_G) (g : Nat → ClassId) (q_this q_s q_before q_saved q_past q_steps q_goes q_line q_text q_orders : Nat) (p1 : Int32) (f_isSaved : Int32) (f_pastMany : Int32) (f_thrown : Int32) (f_reason : Int32) (f_detail : Int32) (f_isRefused : Int32) (f_goesMany : Int32) (f_roundSteps : Int32) (f_lineMany : Int32) (f_length : Int32) (f_at : Int32) (f_isWrong : Int32) (f_errorAt : Int32) (f_orderMany : Int32) (a_s : Nat → Int32) (o : Int32 × Int32 × (Nat → Int32)) (h : F_X12_doDropPost p1 f_thrown a_s = some o) : MW l yX12_doDropPost (Cond.code yX12_doDropPost cX12_doDropPost 3 (some .int)) { frames := 2, cells := 0, slots := 0, locals := 43 } D g [.ref q_this, .int p1] [(q_this, .inr (12, [.ref q_s, .ref q_before, .ref q_saved, .int f_isSaved, .ref q_past, .int f_pastMany, .int f_thrown, .int f_reason, .int f_detail, .int f_isRefused, .ref q_steps, .ref q_goes, .int f_goesMany, .int f_roundSteps, .ref q_line, .int f_lineMany, .ref q_text, .int f_length, .int f_at, .int f_isWrong, .int f_errorAt, .ref q_orders, .int f_orderMany])), (q_s, .inl (g 0, 147, .inl a_s))] (some (.int o.1)) [(q_this, .inr (12, [.ref q_s, .ref q_before, .ref q_saved, .int f_isSaved, .ref q_past, .int f_pastMany, .int o.2.1, .int f_reason, .int f_detail, .int f_isRefused, .ref q_steps, .ref q_goes, .int f_goesMany, .int f_roundSteps, .ref q_line, .int f_lineMany, .ref q_text, .int f_length, .int f_at, .int f_isWrong, .int f_errorAt, .ref q_orders, .int f_orderMany])), (q_s, .inl (g 0, 147, .inl o.2.2))] := by
  refine z_wr_start (by decide) (Nat.le_of_ble_eq_true rfl) ?_
  intro p e s m args below meth c Q A X hr hQ hA
  refine z_lv (lv' := [(0, .ref q_this), (1, .int p1)]) rfl ?_
  refine z_aload_n X 0 dX12_doDropPost_0 rfl rfl ?_
  refine z_iload_n X 1 dX12_doDropPost_1 rfl rfl ?_
  obtain ⟨o1, e2, h⟩ := bnd_p h
  refine z_rdV (rest := []) (q0 := 0) (ci := 12) X IW_P k_X12_isPost (c_X12_isPost l D g q_this q_s q_before q_saved q_past q_steps q_goes q_line q_text q_orders p1 f_isSaved f_pastMany f_thrown f_reason f_detail f_isRefused f_goesMany f_roundSteps f_lineMany f_length f_at f_isWrong f_errorAt f_orderMany a_s o1 e2) ql_X12_X12_isPost dX12_doDropPost_2 [0, 1] rfl rfl rfl rfl rfl rfl ⟨Nat.le_of_ble_eq_true rfl, Nat.le_of_ble_eq_true rfl, rfl, rfl, Nat.le_of_ble_eq_true rfl, Nat.le_of_ble_eq_true rfl⟩ (Nat.le_of_ble_eq_true rfl) ?_
  refine z_if_ne X 14 dX12_doDropPost_5 (by decide) h (fun _ h => ?_) (fun _ h => ?_)
  · refine z_aload_n X 0 dX12_doDropPost_8 rfl rfl ?_
    refine z_iconst X (1 : Int32) dX12_doDropPost_9 (by decide) ?_
    obtain ⟨o3, e4, h⟩ := bnd_p h
    refine z_wrV (rest := []) (q0 := 0) (ci := 12) (ws' := [(q_this, .inr (12, [.ref q_s, .ref q_before, .ref q_saved, .int f_isSaved, .ref q_past, .int f_pastMany, .int o3.2, .int f_reason, .int f_detail, .int f_isRefused, .ref q_steps, .ref q_goes, .int f_goesMany, .int f_roundSteps, .ref q_line, .int f_lineMany, .ref q_text, .int f_length, .int f_at, .int f_isWrong, .int f_errorAt, .ref q_orders, .int f_orderMany])), (q_s, .inl (g 0, 147, .inl a_s))]) (wr := [(q_s, .inl (g 0, 147, .inl a_s))]) (as := [q_this, q_s]) X k_X12_fails (c_X12_fails l D g q_this q_s q_before q_saved q_past q_steps q_goes q_line q_text q_orders (1 : Int32) f_isSaved f_pastMany f_thrown f_reason f_detail f_isRefused f_goesMany f_roundSteps f_lineMany f_length f_at f_isWrong f_errorAt f_orderMany o3 e4) ql_X12_X12_fails dX12_doDropPost_10 [0] [1] ⟨rfl, rfl, rfl, rfl, rfl, rfl, rfl, rfl⟩ rfl rfl rfl rfl rfl ⟨Nat.le_of_ble_eq_true rfl, Nat.le_of_ble_eq_true rfl, rfl, rfl, Nat.le_of_ble_eq_true rfl, Nat.le_of_ble_eq_true rfl⟩ (Nat.le_of_ble_eq_true rfl) ?_
    cases h
    exact z_iretW X hQ hA hr dX12_doDropPost_13
  · refine z_aload_n X 0 dX12_doDropPost_14 rfl rfl ?_
    refine z_get (q0 := 0) (k := 0) (ci := 12) X IW_P iw_X12 rfl qf_X12_X12_s (by decide) dX12_doDropPost_15 rfl rfl ?_
    refine z_iconst X (4 : Int32) dX12_doDropPost_18 (by decide) ?_
    refine z_iald (q0 := 1) X IW_P dX12_doDropPost_19 rfl h (fun h => ?_)
    refine z_iconst X (1 : Int32) dX12_doDropPost_20 (by decide) ?_
    refine z_isub X dX12_doDropPost_21 ?_
    refine z_istore_n X [(2, .int ((a_s (4 : Int32).toNatClampNeg) - (1 : Int32))), (0, .ref q_this), (1, .int p1)] dX12_doDropPost_22 rfl (by decide) rfl ?_
    refine z_aload_n X 1 dX12_doDropPost_23 rfl rfl ?_
    refine z_get (q0 := 0) (k := 0) (ci := 12) X IW_P iw_X12 rfl qf_X12_X12_s (by decide) dX12_doDropPost_24 rfl rfl ?_
    refine z_sipush X (139 : Int32) dX12_doDropPost_27 (by decide) ?_
    refine z_iconst X (2 : Int32) dX12_doDropPost_30 (by decide) ?_
    refine z_iload_n X 2 dX12_doDropPost_31 rfl rfl ?_
    refine z_iconst X (1 : Int32) dX12_doDropPost_32 (by decide) ?_
    refine z_iadd X dX12_doDropPost_33 ?_
    refine z_imul X dX12_doDropPost_34 ?_
    refine z_iadd X dX12_doDropPost_35 ?_
    refine z_aload_n X 1 dX12_doDropPost_36 rfl rfl ?_
    refine z_get (q0 := 0) (k := 0) (ci := 12) X IW_P iw_X12 rfl qf_X12_X12_s (by decide) dX12_doDropPost_37 rfl rfl ?_
    refine z_sipush X (139 : Int32) dX12_doDropPost_40 (by decide) ?_
    refine z_iconst X (2 : Int32) dX12_doDropPost_43 (by decide) ?_
    refine z_iload_n X 2 dX12_doDropPost_44 rfl rfl ?_
    refine z_imul X dX12_doDropPost_45 ?_
    refine z_iadd X dX12_doDropPost_46 ?_
    refine z_iconst X (2 : Int32) dX12_doDropPost_47 (by decide) ?_
    refine z_iload_n X 0 dX12_doDropPost_48 rfl rfl ?_
    refine z_iload_n X 2 dX12_doDropPost_49 rfl rfl ?_
    refine z_isub X dX12_doDropPost_50 ?_
    refine z_imul X dX12_doDropPost_51 ?_
    refine z_copyi (q0 := 1) (q1 := 1) (ws' := [(q_this, .inr (12, [.ref q_s, .ref q_before, .ref q_saved, .int f_isSaved, .ref q_past, .int f_pastMany, .int f_thrown, .int f_reason, .int f_detail, .int f_isRefused, .ref q_steps, .ref q_goes, .int f_goesMany, .int f_roundSteps, .ref q_line, .int f_lineMany, .ref q_text, .int f_length, .int f_at, .int f_isWrong, .int f_errorAt, .ref q_orders, .int f_orderMany])), (q_s, .inl (g 0, 147, .inl (va_cpy a_s a_s ((139 : Int32) + ((2 : Int32) * (p1 + (1 : Int32)))).toNatClampNeg ((139 : Int32) + ((2 : Int32) * p1)).toNatClampNeg ((2 : Int32) * (((a_s (4 : Int32).toNatClampNeg) - (1 : Int32)) - p1)).toNatClampNeg)))]) X ql_X12_ac dX12_doDropPost_52 rfl rfl h rfl (Nat.le_of_ble_eq_true rfl) (Nat.le_of_ble_eq_true rfl) (fun h => ?_)
    refine z_aload_n X 1 dX12_doDropPost_55 rfl rfl ?_
    refine z_get (q0 := 0) (k := 0) (ci := 12) X IW_P iw_X12 rfl qf_X12_X12_s (by decide) dX12_doDropPost_56 rfl rfl ?_
    refine z_iconst X (4 : Int32) dX12_doDropPost_59 (by decide) ?_
    refine z_iload_n X 0 dX12_doDropPost_60 rfl rfl ?_
    refine z_iast (q0 := 1) (ws' := [(q_this, .inr (12, [.ref q_s, .ref q_before, .ref q_saved, .int f_isSaved, .ref q_past, .int f_pastMany, .int f_thrown, .int f_reason, .int f_detail, .int f_isRefused, .ref q_steps, .ref q_goes, .int f_goesMany, .int f_roundSteps, .ref q_line, .int f_lineMany, .ref q_text, .int f_length, .int f_at, .int f_isWrong, .int f_errorAt, .ref q_orders, .int f_orderMany])), (q_s, .inl (g 0, 147, .inl (upd (va_cpy a_s a_s ((139 : Int32) + ((2 : Int32) * (p1 + (1 : Int32)))).toNatClampNeg ((139 : Int32) + ((2 : Int32) * p1)).toNatClampNeg ((2 : Int32) * (((a_s (4 : Int32).toNatClampNeg) - (1 : Int32)) - p1)).toNatClampNeg) (4 : Int32).toNatClampNeg ((a_s (4 : Int32).toNatClampNeg) - (1 : Int32)))))]) X dX12_doDropPost_61 rfl h rfl (fun h => ?_)
    refine z_iload_n X 0 dX12_doDropPost_62 rfl rfl ?_
    cases h
    exact z_iretW X hQ hA hr dX12_doDropPost_63

def F_X12_dropPost (p1 : Int32) (f_pastMany : Int32) (f_thrown : Int32) (a_s : Nat → Int32) (a_before : Nat → Int32) (a_past : Nat → Int32) : Option (Int32 × Int32 × Int32 × (Nat → Int32) × (Nat → Int32) × (Nat → Int32)) :=
  bnd (F_X12_keep a_s f_thrown a_before) (fun o1 => bnd (F_X12_doDropPost p1 o1.1 a_s) (fun o3 => bnd (F_X12_ends o3.1 o3.2.1 o1.2 f_pastMany o3.2.2 a_past) (fun o5 => some (o5.1, o5.2.1, o3.2.1, o5.2.2.1, o1.2, o5.2.2.2))))
theorem dX12_dropPost_0 : decode cX12_dropPost 0 = .ok (.aload_n 0, 1) := by decide +kernel
theorem dX12_dropPost_1 : decode cX12_dropPost 1 = .ok (.invokevirtual 101, 3) := by decide +kernel
theorem dX12_dropPost_4 : decode cX12_dropPost 4 = .ok (.aload_n 0, 1) := by decide +kernel
theorem dX12_dropPost_5 : decode cX12_dropPost 5 = .ok (.aload_n 0, 1) := by decide +kernel
theorem dX12_dropPost_6 : decode cX12_dropPost 6 = .ok (.iload_n 1, 1) := by decide +kernel
theorem dX12_dropPost_7 : decode cX12_dropPost 7 = .ok (.invokevirtual 179, 3) := by decide +kernel
theorem dX12_dropPost_10 : decode cX12_dropPost 10 = .ok (.invokevirtual 107, 3) := by decide +kernel
theorem dX12_dropPost_13 : decode cX12_dropPost 13 = .ok (.ireturn, 1) := by decide +kernel
theorem k_X12_dropPost : cardV yX12_dropPost (Cond.code yX12_dropPost cX12_dropPost 2 (some .int)) 1 := ⟨⟨qi_X12_dropPost, qv_X12_dropPost⟩, qc_X12_dropPost, qn_X12, by decide +kernel, by decide +kernel, by decide +kernel⟩
set_option maxHeartbeats 4000000 in
set_option maxRecDepth 100000 in
theorem c_X12_dropPost (l : Launch) (D : va_G) (g : Nat → ClassId) (q_this q_s q_before q_saved q_past q_steps q_goes q_line q_text q_orders : Nat) (p1 : Int32) (f_isSaved : Int32) (f_pastMany : Int32) (f_thrown : Int32) (f_reason : Int32) (f_detail : Int32) (f_isRefused : Int32) (f_goesMany : Int32) (f_roundSteps : Int32) (f_lineMany : Int32) (f_length : Int32) (f_at : Int32) (f_isWrong : Int32) (f_errorAt : Int32) (f_orderMany : Int32) (a_s : Nat → Int32) (a_before : Nat → Int32) (a_past : Nat → Int32) (o : Int32 × Int32 × Int32 × (Nat → Int32) × (Nat → Int32) × (Nat → Int32)) (h : F_X12_dropPost p1 f_pastMany f_thrown a_s a_before a_past = some o) : MW l yX12_dropPost (Cond.code yX12_dropPost cX12_dropPost 2 (some .int)) { frames := 3, cells := 0, slots := 0, locals := 65 } D g [.ref q_this, .int p1] [(q_this, .inr (12, [.ref q_s, .ref q_before, .ref q_saved, .int f_isSaved, .ref q_past, .int f_pastMany, .int f_thrown, .int f_reason, .int f_detail, .int f_isRefused, .ref q_steps, .ref q_goes, .int f_goesMany, .int f_roundSteps, .ref q_line, .int f_lineMany, .ref q_text, .int f_length, .int f_at, .int f_isWrong, .int f_errorAt, .ref q_orders, .int f_orderMany])), (q_s, .inl (g 0, 147, .inl a_s)), (q_before, .inl (g 0, 147, .inl a_before)), (q_past, .inl (g 0, 1176, .inl a_past))] (some (.int o.1)) [(q_this, .inr (12, [.ref q_s, .ref q_before, .ref q_saved, .int f_isSaved, .ref q_past, .int o.2.1, .int o.2.2.1, .int f_reason, .int f_detail, .int f_isRefused, .ref q_steps, .ref q_goes, .int f_goesMany, .int f_roundSteps, .ref q_line, .int f_lineMany, .ref q_text, .int f_length, .int f_at, .int f_isWrong, .int f_errorAt, .ref q_orders, .int f_orderMany])), (q_s, .inl (g 0, 147, .inl o.2.2.2.1)), (q_before, .inl (g 0, 147, .inl o.2.2.2.2.1)), (q_past, .inl (g 0, 1176, .inl o.2.2.2.2.2))] := by
  refine z_wr_start (by decide) (Nat.le_of_ble_eq_true rfl) ?_
  intro p e s m args below meth c Q A X hr hQ hA
  refine z_lv (lv' := [(0, .ref q_this), (1, .int p1)]) rfl ?_
  refine z_aload_n X 0 dX12_dropPost_0 rfl rfl ?_
  obtain ⟨o1, e2, h⟩ := bnd_p h
  refine z_wrV (rest := []) (q0 := 0) (ci := 12) (ws' := [(q_this, .inr (12, [.ref q_s, .ref q_before, .ref q_saved, .int f_isSaved, .ref q_past, .int f_pastMany, .int o1.1, .int f_reason, .int f_detail, .int f_isRefused, .ref q_steps, .ref q_goes, .int f_goesMany, .int f_roundSteps, .ref q_line, .int f_lineMany, .ref q_text, .int f_length, .int f_at, .int f_isWrong, .int f_errorAt, .ref q_orders, .int f_orderMany])), (q_s, .inl (g 0, 147, .inl a_s)), (q_before, .inl (g 0, 147, .inl o1.2)), (q_past, .inl (g 0, 1176, .inl a_past))]) (wr := [(q_past, .inl (g 0, 1176, .inl a_past))]) (as := [q_this, q_s, q_before, q_past]) X k_X12_keep (c_X12_keep l D g q_this q_s q_before q_saved q_past q_steps q_goes q_line q_text q_orders f_isSaved f_pastMany f_thrown f_reason f_detail f_isRefused f_goesMany f_roundSteps f_lineMany f_length f_at f_isWrong f_errorAt f_orderMany a_s a_before o1 e2) ql_X12_X12_keep dX12_dropPost_1 [0, 1, 2] [3] ⟨rfl, rfl, rfl, rfl, rfl, rfl, rfl, rfl⟩ rfl rfl rfl rfl rfl ⟨Nat.le_of_ble_eq_true rfl, Nat.le_of_ble_eq_true rfl, rfl, rfl, Nat.le_of_ble_eq_true rfl, Nat.le_of_ble_eq_true rfl⟩ (Nat.le_of_ble_eq_true rfl) ?_
  refine z_aload_n X 0 dX12_dropPost_4 rfl rfl ?_
  refine z_aload_n X 0 dX12_dropPost_5 rfl rfl ?_
  refine z_iload_n X 1 dX12_dropPost_6 rfl rfl ?_
  obtain ⟨o3, e4, h⟩ := bnd_p h
  refine z_wrV (rest := [.ref q_this]) (q0 := 0) (ci := 12) (ws' := [(q_this, .inr (12, [.ref q_s, .ref q_before, .ref q_saved, .int f_isSaved, .ref q_past, .int f_pastMany, .int o3.2.1, .int f_reason, .int f_detail, .int f_isRefused, .ref q_steps, .ref q_goes, .int f_goesMany, .int f_roundSteps, .ref q_line, .int f_lineMany, .ref q_text, .int f_length, .int f_at, .int f_isWrong, .int f_errorAt, .ref q_orders, .int f_orderMany])), (q_s, .inl (g 0, 147, .inl o3.2.2)), (q_before, .inl (g 0, 147, .inl o1.2)), (q_past, .inl (g 0, 1176, .inl a_past))]) (wr := [(q_before, .inl (g 0, 147, .inl o1.2)), (q_past, .inl (g 0, 1176, .inl a_past))]) (as := [q_this, q_s, q_before, q_past]) X k_X12_doDropPost (c_X12_doDropPost l D g q_this q_s q_before q_saved q_past q_steps q_goes q_line q_text q_orders p1 f_isSaved f_pastMany o1.1 f_reason f_detail f_isRefused f_goesMany f_roundSteps f_lineMany f_length f_at f_isWrong f_errorAt f_orderMany a_s o3 e4) ql_X12_X12_doDropPost dX12_dropPost_7 [0, 1] [2, 3] ⟨rfl, rfl, rfl, rfl, rfl, rfl, rfl, rfl⟩ rfl rfl rfl rfl rfl ⟨Nat.le_of_ble_eq_true rfl, Nat.le_of_ble_eq_true rfl, rfl, rfl, Nat.le_of_ble_eq_true rfl, Nat.le_of_ble_eq_true rfl⟩ (Nat.le_of_ble_eq_true rfl) ?_
  obtain ⟨o5, e6, h⟩ := bnd_p h
  refine z_wrV (rest := []) (q0 := 0) (ci := 12) (ws' := [(q_this, .inr (12, [.ref q_s, .ref q_before, .ref q_saved, .int f_isSaved, .ref q_past, .int o5.2.1, .int o3.2.1, .int f_reason, .int f_detail, .int f_isRefused, .ref q_steps, .ref q_goes, .int f_goesMany, .int f_roundSteps, .ref q_line, .int f_lineMany, .ref q_text, .int f_length, .int f_at, .int f_isWrong, .int f_errorAt, .ref q_orders, .int f_orderMany])), (q_s, .inl (g 0, 147, .inl o5.2.2.1)), (q_before, .inl (g 0, 147, .inl o1.2)), (q_past, .inl (g 0, 1176, .inl o5.2.2.2))]) (wr := []) (as := [q_this, q_s, q_before, q_past]) X k_X12_ends (c_X12_ends l D g q_this q_s q_before q_saved q_past q_steps q_goes q_line q_text q_orders o3.1 f_isSaved f_pastMany o3.2.1 f_reason f_detail f_isRefused f_goesMany f_roundSteps f_lineMany f_length f_at f_isWrong f_errorAt f_orderMany o3.2.2 o1.2 a_past o5 e6) ql_X12_X12_ends dX12_dropPost_10 [0, 1, 2, 3] [] ⟨rfl, rfl, rfl, rfl, rfl, rfl, rfl, rfl⟩ rfl rfl rfl rfl rfl ⟨Nat.le_of_ble_eq_true rfl, Nat.le_of_ble_eq_true rfl, rfl, rfl, Nat.le_of_ble_eq_true rfl, Nat.le_of_ble_eq_true rfl⟩ (Nat.le_of_ble_eq_true rfl) ?_
  cases h
  exact z_iretW X hQ hA hr dX12_dropPost_13

def J_X12_canBe_77 (p1 : Int32) (a_s : Nat → Int32) (r16 : Int32 → Int32 → Option (Int32)) (t0 : Int32) (x3 : Int32) : Option (Int32) :=
  r16 t0 (x3 + 1)

def J_X12_canBe_76 (p1 : Int32) (a_s : Nat → Int32) (r16 : Int32 → Int32 → Option (Int32)) (x3 : Int32) : Option (Int32) :=
  J_X12_canBe_77 p1 a_s (r16) (0 : Int32) x3

def J_X12_canBe_72 (p1 : Int32) (a_s : Nat → Int32) (r16 : Int32 → Int32 → Option (Int32)) (x3 : Int32) : Option (Int32) :=
  J_X12_canBe_77 p1 a_s (r16) (1 : Int32) x3

def L_X12_canBe_16 (p1 : Int32) (a_s : Nat → Int32) : Nat → Int32 → Int32 → Option (Int32)
  | 0, _, _ => none
  | _n + 1, x2, x3 =>
    grd (inb (4 : Int32) 147) (brn ((a_s (4 : Int32).toNatClampNeg) ≤ x3) (grd (x2 = 0 ∨ x2 = 1) (some (x2))) (grd (inb (((139 : Int32) + ((2 : Int32) * x3)) + (1 : Int32)) 147) (brn (x2 = 0) (J_X12_canBe_76 p1 a_s (L_X12_canBe_16 p1 a_s _n) x3) (brn ((a_s (((139 : Int32) + ((2 : Int32) * x3)) + (1 : Int32)).toNatClampNeg) < 0) (J_X12_canBe_72 p1 a_s (L_X12_canBe_16 p1 a_s _n) x3) (grd (inb ((139 : Int32) + ((2 : Int32) * x3)) 147) (bnd (F_X12_far p1 (a_s ((139 : Int32) + ((2 : Int32) * x3)).toNatClampNeg)) (fun o4 => brn (o4 = (a_s (((139 : Int32) + ((2 : Int32) * x3)) + (1 : Int32)).toNatClampNeg)) (J_X12_canBe_72 p1 a_s (L_X12_canBe_16 p1 a_s _n) x3) (J_X12_canBe_76 p1 a_s (L_X12_canBe_16 p1 a_s _n) x3))))))))

def J_X12_canBe_13 (p1 : Int32) (a_s : Nat → Int32) (t0 : Int32) : Option (Int32) :=
  L_X12_canBe_16 p1 a_s 100 t0 (0 : Int32)

def F_X12_canBe (p1 : Int32) (a_s : Nat → Int32) : Option (Int32) :=
  bnd (F_X12_isBlocked p1 a_s) (fun o1 => brn (o1 = 0) (J_X12_canBe_13 p1 a_s (1 : Int32)) (J_X12_canBe_13 p1 a_s (0 : Int32)))
theorem dX12_canBe_0 : decode cX12_canBe 0 = .ok (.aload_n 0, 1) := by decide +kernel
theorem dX12_canBe_1 : decode cX12_canBe 1 = .ok (.iload_n 1, 1) := by decide +kernel
theorem dX12_canBe_2 : decode cX12_canBe 2 = .ok (.invokevirtual 91, 3) := by decide +kernel
theorem dX12_canBe_5 : decode cX12_canBe 5 = .ok (.ifCond .ne 7, 3) := by decide +kernel
theorem dX12_canBe_8 : decode cX12_canBe 8 = .ok (.iconst 1, 1) := by decide +kernel
theorem dX12_canBe_9 : decode cX12_canBe 9 = .ok (.goto 4, 3) := by decide +kernel
theorem dX12_canBe_12 : decode cX12_canBe 12 = .ok (.iconst 0, 1) := by decide +kernel
theorem dX12_canBe_13 : decode cX12_canBe 13 = .ok (.istore_n 2, 1) := by decide +kernel
theorem dX12_canBe_14 : decode cX12_canBe 14 = .ok (.iconst 0, 1) := by decide +kernel
theorem dX12_canBe_15 : decode cX12_canBe 15 = .ok (.istore_n 3, 1) := by decide +kernel
theorem dX12_canBe_16 : decode cX12_canBe 16 = .ok (.iload_n 3, 1) := by decide +kernel
theorem dX12_canBe_17 : decode cX12_canBe 17 = .ok (.aload_n 0, 1) := by decide +kernel
theorem dX12_canBe_18 : decode cX12_canBe 18 = .ok (.getfield 9, 3) := by decide +kernel
theorem dX12_canBe_21 : decode cX12_canBe 21 = .ok (.iconst 4, 1) := by decide +kernel
theorem dX12_canBe_22 : decode cX12_canBe 22 = .ok (.iaload, 1) := by decide +kernel
theorem dX12_canBe_23 : decode cX12_canBe 23 = .ok (.if_icmp .ge 61, 3) := by decide +kernel
theorem dX12_canBe_26 : decode cX12_canBe 26 = .ok (.aload_n 0, 1) := by decide +kernel
theorem dX12_canBe_27 : decode cX12_canBe 27 = .ok (.getfield 9, 3) := by decide +kernel
theorem dX12_canBe_30 : decode cX12_canBe 30 = .ok (.sipush 139, 3) := by decide +kernel
theorem dX12_canBe_33 : decode cX12_canBe 33 = .ok (.iconst 2, 1) := by decide +kernel
theorem dX12_canBe_34 : decode cX12_canBe 34 = .ok (.iload_n 3, 1) := by decide +kernel
theorem dX12_canBe_35 : decode cX12_canBe 35 = .ok (.imul, 1) := by decide +kernel
theorem dX12_canBe_36 : decode cX12_canBe 36 = .ok (.iadd, 1) := by decide +kernel
theorem dX12_canBe_37 : decode cX12_canBe 37 = .ok (.iconst 1, 1) := by decide +kernel
theorem dX12_canBe_38 : decode cX12_canBe 38 = .ok (.iadd, 1) := by decide +kernel
theorem dX12_canBe_39 : decode cX12_canBe 39 = .ok (.iaload, 1) := by decide +kernel
theorem dX12_canBe_40 : decode cX12_canBe 40 = .ok (.istore 4, 2) := by decide +kernel
theorem dX12_canBe_42 : decode cX12_canBe 42 = .ok (.iload_n 2, 1) := by decide +kernel
theorem dX12_canBe_43 : decode cX12_canBe 43 = .ok (.ifCond .eq 33, 3) := by decide +kernel
theorem dX12_canBe_46 : decode cX12_canBe 46 = .ok (.iload 4, 2) := by decide +kernel
theorem dX12_canBe_48 : decode cX12_canBe 48 = .ok (.ifCond .lt 24, 3) := by decide +kernel
theorem dX12_canBe_51 : decode cX12_canBe 51 = .ok (.iload_n 1, 1) := by decide +kernel
theorem dX12_canBe_52 : decode cX12_canBe 52 = .ok (.aload_n 0, 1) := by decide +kernel
theorem dX12_canBe_53 : decode cX12_canBe 53 = .ok (.getfield 9, 3) := by decide +kernel
theorem dX12_canBe_56 : decode cX12_canBe 56 = .ok (.sipush 139, 3) := by decide +kernel
theorem dX12_canBe_59 : decode cX12_canBe 59 = .ok (.iconst 2, 1) := by decide +kernel
theorem dX12_canBe_60 : decode cX12_canBe 60 = .ok (.iload_n 3, 1) := by decide +kernel
theorem dX12_canBe_61 : decode cX12_canBe 61 = .ok (.imul, 1) := by decide +kernel
theorem dX12_canBe_62 : decode cX12_canBe 62 = .ok (.iadd, 1) := by decide +kernel
theorem dX12_canBe_63 : decode cX12_canBe 63 = .ok (.iaload, 1) := by decide +kernel
theorem dX12_canBe_64 : decode cX12_canBe 64 = .ok (.invokestatic 145, 3) := by decide +kernel
theorem dX12_canBe_67 : decode cX12_canBe 67 = .ok (.iload 4, 2) := by decide +kernel
theorem dX12_canBe_69 : decode cX12_canBe 69 = .ok (.if_icmp .ne 7, 3) := by decide +kernel
theorem dX12_canBe_72 : decode cX12_canBe 72 = .ok (.iconst 1, 1) := by decide +kernel
theorem dX12_canBe_73 : decode cX12_canBe 73 = .ok (.goto 4, 3) := by decide +kernel
theorem dX12_canBe_76 : decode cX12_canBe 76 = .ok (.iconst 0, 1) := by decide +kernel
theorem dX12_canBe_77 : decode cX12_canBe 77 = .ok (.istore_n 2, 1) := by decide +kernel
theorem dX12_canBe_78 : decode cX12_canBe 78 = .ok (.iinc 3 1, 3) := by decide +kernel
theorem dX12_canBe_81 : decode cX12_canBe 81 = .ok (.goto (-65), 3) := by decide +kernel
theorem dX12_canBe_84 : decode cX12_canBe 84 = .ok (.iload_n 2, 1) := by decide +kernel
theorem dX12_canBe_85 : decode cX12_canBe 85 = .ok (.ireturn, 1) := by decide +kernel
theorem k_X12_canBe : cardV yX12_canBe (Cond.code yX12_canBe cX12_canBe 5 (some .boolean)) 1 := ⟨⟨qi_X12_canBe, qv_X12_canBe⟩, qc_X12_canBe, qn_X12, by decide +kernel, by decide +kernel, by decide +kernel⟩
set_option maxHeartbeats 4000000 in
set_option maxRecDepth 100000 in
theorem c_X12_canBe (l : Launch) (D : va_G) (g : Nat → ClassId) (q_this q_s q_before q_saved q_past q_steps q_goes q_line q_text q_orders : Nat) (p1 : Int32) (f_isSaved : Int32) (f_pastMany : Int32) (f_thrown : Int32) (f_reason : Int32) (f_detail : Int32) (f_isRefused : Int32) (f_goesMany : Int32) (f_roundSteps : Int32) (f_lineMany : Int32) (f_length : Int32) (f_at : Int32) (f_isWrong : Int32) (f_errorAt : Int32) (f_orderMany : Int32) (a_s : Nat → Int32) (o : Int32) (h : F_X12_canBe p1 a_s = some o) : MR l yX12_canBe (Cond.code yX12_canBe cX12_canBe 5 (some .boolean)) { frames := 2, cells := 0, slots := 0, locals := 61 } D g [.ref q_this, .int p1] [(q_this, .inr (12, [.ref q_s, .ref q_before, .ref q_saved, .int f_isSaved, .ref q_past, .int f_pastMany, .int f_thrown, .int f_reason, .int f_detail, .int f_isRefused, .ref q_steps, .ref q_goes, .int f_goesMany, .int f_roundSteps, .ref q_line, .int f_lineMany, .ref q_text, .int f_length, .int f_at, .int f_isWrong, .int f_errorAt, .ref q_orders, .int f_orderMany])), (q_s, .inl (g 0, 147, .inl a_s))] (some (.int o)) := by
  refine z_rd_start (by decide) (Nat.le_of_ble_eq_true rfl) ?_
  intro p e s m args below meth c Q X hr hQ
  refine z_lv (lv' := [(0, .ref q_this), (1, .int p1)]) rfl ?_
  have H16 : ∀ (n : Nat) (x2 : Int32) (x3 : Int32), L_X12_canBe_16 p1 a_s  n x2 x3 = some o → Z p l e { frames := 2, cells := 0, slots := 0, locals := 61 } s m args below meth c Q 5 0 0 (IR D [(q_this, .inr (12, [.ref q_s, .ref q_before, .ref q_saved, .int f_isSaved, .ref q_past, .int f_pastMany, .int f_thrown, .int f_reason, .int f_detail, .int f_isRefused, .ref q_steps, .ref q_goes, .int f_goesMany, .int f_roundSteps, .ref q_line, .int f_lineMany, .ref q_text, .int f_length, .int f_at, .int f_isWrong, .int f_errorAt, .ref q_orders, .int f_orderMany])), (q_s, .inl (g 0, 147, .inl a_s))] s) 16 [(0, .ref q_this), (1, .int p1), (2, .int x2), (3, .int x3)] [] := by
    intro n
    induction n with
    | zero => intro x2 x3 h; cases h
    | succ n16 ih16 =>
      intro x2 x3 h
      have H77 : ∀ (t0 : Int32) (x3 : Int32), J_X12_canBe_77 p1 a_s (L_X12_canBe_16 p1 a_s n16) t0 x3 = some o → Z p l e { frames := 2, cells := 0, slots := 0, locals := 61 } s m args below meth c Q 5 0 0 (IR D [(q_this, .inr (12, [.ref q_s, .ref q_before, .ref q_saved, .int f_isSaved, .ref q_past, .int f_pastMany, .int f_thrown, .int f_reason, .int f_detail, .int f_isRefused, .ref q_steps, .ref q_goes, .int f_goesMany, .int f_roundSteps, .ref q_line, .int f_lineMany, .ref q_text, .int f_length, .int f_at, .int f_isWrong, .int f_errorAt, .ref q_orders, .int f_orderMany])), (q_s, .inl (g 0, 147, .inl a_s))] s) 77 [(0, .ref q_this), (1, .int p1), (3, .int x3)] [.int t0] := by
        intro t0 x3 h
        refine z_istore_n X [(2, .int t0), (0, .ref q_this), (1, .int p1), (3, .int x3)] dX12_canBe_77 rfl (by decide) rfl ?_
        refine z_iinc X 3 [(3, .int (x3 + 1)), (2, .int t0), (0, .ref q_this), (1, .int p1)] dX12_canBe_78 rfl rfl (by decide) rfl ?_
        refine z_goto X 16 dX12_canBe_81 (by decide) ?_
        refine z_sub (lv' := [(0, .ref q_this), (1, .int p1), (2, .int t0), (3, .int (x3 + 1))]) [2, 3, 1, 0] rfl ?_
        exact ih16 t0 (x3 + 1) h
      have H76 : ∀ (x3 : Int32), J_X12_canBe_76 p1 a_s (L_X12_canBe_16 p1 a_s n16) x3 = some o → Z p l e { frames := 2, cells := 0, slots := 0, locals := 61 } s m args below meth c Q 5 0 0 (IR D [(q_this, .inr (12, [.ref q_s, .ref q_before, .ref q_saved, .int f_isSaved, .ref q_past, .int f_pastMany, .int f_thrown, .int f_reason, .int f_detail, .int f_isRefused, .ref q_steps, .ref q_goes, .int f_goesMany, .int f_roundSteps, .ref q_line, .int f_lineMany, .ref q_text, .int f_length, .int f_at, .int f_isWrong, .int f_errorAt, .ref q_orders, .int f_orderMany])), (q_s, .inl (g 0, 147, .inl a_s))] s) 76 [(0, .ref q_this), (1, .int p1), (3, .int x3)] [] := by
        intro x3 h
        refine z_iconst X (0 : Int32) dX12_canBe_76 (by decide) ?_
        exact H77 (0 : Int32) x3 h
      have H72 : ∀ (x3 : Int32), J_X12_canBe_72 p1 a_s (L_X12_canBe_16 p1 a_s n16) x3 = some o → Z p l e { frames := 2, cells := 0, slots := 0, locals := 61 } s m args below meth c Q 5 0 0 (IR D [(q_this, .inr (12, [.ref q_s, .ref q_before, .ref q_saved, .int f_isSaved, .ref q_past, .int f_pastMany, .int f_thrown, .int f_reason, .int f_detail, .int f_isRefused, .ref q_steps, .ref q_goes, .int f_goesMany, .int f_roundSteps, .ref q_line, .int f_lineMany, .ref q_text, .int f_length, .int f_at, .int f_isWrong, .int f_errorAt, .ref q_orders, .int f_orderMany])), (q_s, .inl (g 0, 147, .inl a_s))] s) 72 [(0, .ref q_this), (1, .int p1), (3, .int x3)] [] := by
        intro x3 h
        refine z_iconst X (1 : Int32) dX12_canBe_72 (by decide) ?_
        refine z_goto X 77 dX12_canBe_73 (by decide) ?_
        exact H77 (1 : Int32) x3 h
      refine z_iload_n X 3 dX12_canBe_16 rfl rfl ?_
      refine z_aload_n X 0 dX12_canBe_17 rfl rfl ?_
      refine z_get (q0 := 0) (k := 0) (ci := 12) X IR_P iw_X12 rfl qf_X12_X12_s (by decide) dX12_canBe_18 rfl rfl ?_
      refine z_iconst X (4 : Int32) dX12_canBe_21 (by decide) ?_
      refine z_iald (q0 := 1) X IR_P dX12_canBe_22 rfl h (fun h => ?_)
      refine z_icmp_ge X 84 dX12_canBe_23 (by decide) h (fun _ h => ?_) (fun _ h => ?_)
      · refine z_iload_n X 2 dX12_canBe_84 rfl rfl ?_
        obtain ⟨e3, h⟩ := grd_p h
        exact z_zretR X hQ hr dX12_canBe_85 (nar_bool e3) h
      · refine z_aload_n X 0 dX12_canBe_26 rfl rfl ?_
        refine z_get (q0 := 0) (k := 0) (ci := 12) X IR_P iw_X12 rfl qf_X12_X12_s (by decide) dX12_canBe_27 rfl rfl ?_
        refine z_sipush X (139 : Int32) dX12_canBe_30 (by decide) ?_
        refine z_iconst X (2 : Int32) dX12_canBe_33 (by decide) ?_
        refine z_iload_n X 3 dX12_canBe_34 rfl rfl ?_
        refine z_imul X dX12_canBe_35 ?_
        refine z_iadd X dX12_canBe_36 ?_
        refine z_iconst X (1 : Int32) dX12_canBe_37 (by decide) ?_
        refine z_iadd X dX12_canBe_38 ?_
        refine z_iald (q0 := 1) X IR_P dX12_canBe_39 rfl h (fun h => ?_)
        refine z_istore X [(4, .int (a_s (((139 : Int32) + ((2 : Int32) * x3)) + (1 : Int32)).toNatClampNeg)), (0, .ref q_this), (1, .int p1), (2, .int x2), (3, .int x3)] dX12_canBe_40 (by decide) rfl ?_
        refine z_iload_n X 3 dX12_canBe_42 rfl rfl ?_
        refine z_if_eq X 76 dX12_canBe_43 (by decide) h (fun _ h => ?_) (fun _ h => ?_)
        · refine z_sub (lv' := [(0, .ref q_this), (1, .int p1), (3, .int x3)]) [1, 2, 4] rfl ?_
          exact H76 x3 h
        · refine z_iload X 0 dX12_canBe_46 rfl ?_
          refine z_if_lt X 72 dX12_canBe_48 (by decide) h (fun _ h => ?_) (fun _ h => ?_)
          · refine z_sub (lv' := [(0, .ref q_this), (1, .int p1), (3, .int x3)]) [1, 2, 4] rfl ?_
            exact H72 x3 h
          · refine z_iload_n X 2 dX12_canBe_51 rfl rfl ?_
            refine z_aload_n X 1 dX12_canBe_52 rfl rfl ?_
            refine z_get (q0 := 0) (k := 0) (ci := 12) X IR_P iw_X12 rfl qf_X12_X12_s (by decide) dX12_canBe_53 rfl rfl ?_
            refine z_sipush X (139 : Int32) dX12_canBe_56 (by decide) ?_
            refine z_iconst X (2 : Int32) dX12_canBe_59 (by decide) ?_
            refine z_iload_n X 4 dX12_canBe_60 rfl rfl ?_
            refine z_imul X dX12_canBe_61 ?_
            refine z_iadd X dX12_canBe_62 ?_
            refine z_iald (q0 := 1) X IR_P dX12_canBe_63 rfl h (fun h => ?_)
            obtain ⟨o4, e5, h⟩ := bnd_p h
            refine z_rdS (rest := []) X IR_P k_X12_far (c_X12_far l D g p1 (a_s ((139 : Int32) + ((2 : Int32) * x3)).toNatClampNeg) o4 e5) ql_X12_X12_far dX12_canBe_64 [] rfl rfl rfl ⟨Nat.le_of_ble_eq_true rfl, Nat.le_of_ble_eq_true rfl, rfl, rfl, Nat.le_of_ble_eq_true rfl, Nat.le_of_ble_eq_true rfl⟩ (Nat.le_of_ble_eq_true rfl) ?_
            refine z_iload X 0 dX12_canBe_67 rfl ?_
            refine z_icmp_ne X 76 dX12_canBe_69 (by decide) h (fun _ h => ?_) (fun _ h => ?_)
            · refine z_sub (lv' := [(0, .ref q_this), (1, .int p1), (3, .int x3)]) [1, 2, 4] rfl ?_
              exact H72 x3 h
            · refine z_sub (lv' := [(0, .ref q_this), (1, .int p1), (3, .int x3)]) [1, 2, 4] rfl ?_
              exact H76 x3 h
  have H13 : ∀ (t0 : Int32), J_X12_canBe_13 p1 a_s t0 = some o → Z p l e { frames := 2, cells := 0, slots := 0, locals := 61 } s m args below meth c Q 5 0 0 (IR D [(q_this, .inr (12, [.ref q_s, .ref q_before, .ref q_saved, .int f_isSaved, .ref q_past, .int f_pastMany, .int f_thrown, .int f_reason, .int f_detail, .int f_isRefused, .ref q_steps, .ref q_goes, .int f_goesMany, .int f_roundSteps, .ref q_line, .int f_lineMany, .ref q_text, .int f_length, .int f_at, .int f_isWrong, .int f_errorAt, .ref q_orders, .int f_orderMany])), (q_s, .inl (g 0, 147, .inl a_s))] s) 13 [(0, .ref q_this), (1, .int p1)] [.int t0] := by
    intro t0 h
    refine z_istore_n X [(2, .int t0), (0, .ref q_this), (1, .int p1)] dX12_canBe_13 rfl (by decide) rfl ?_
    refine z_iconst X (0 : Int32) dX12_canBe_14 (by decide) ?_
    refine z_istore_n X [(3, .int (0 : Int32)), (2, .int t0), (0, .ref q_this), (1, .int p1)] dX12_canBe_15 rfl (by decide) rfl ?_
    refine z_sub (lv' := [(0, .ref q_this), (1, .int p1), (2, .int t0), (3, .int (0 : Int32))]) [2, 3, 1, 0] rfl ?_
    exact H16 100 t0 (0 : Int32) h
  refine z_aload_n X 0 dX12_canBe_0 rfl rfl ?_
  refine z_iload_n X 1 dX12_canBe_1 rfl rfl ?_
  obtain ⟨o1, e2, h⟩ := bnd_p h
  refine z_rdV (rest := []) (q0 := 0) (ci := 12) X IR_P k_X12_isBlocked (c_X12_isBlocked l D g q_this q_s q_before q_saved q_past q_steps q_goes q_line q_text q_orders p1 f_isSaved f_pastMany f_thrown f_reason f_detail f_isRefused f_goesMany f_roundSteps f_lineMany f_length f_at f_isWrong f_errorAt f_orderMany a_s o1 e2) ql_X12_X12_isBlocked dX12_canBe_2 [0, 1] rfl rfl rfl rfl rfl rfl ⟨Nat.le_of_ble_eq_true rfl, Nat.le_of_ble_eq_true rfl, rfl, rfl, Nat.le_of_ble_eq_true rfl, Nat.le_of_ble_eq_true rfl⟩ (Nat.le_of_ble_eq_true rfl) ?_
  refine z_if_ne X 12 dX12_canBe_5 (by decide) h (fun _ h => ?_) (fun _ h => ?_)
  · refine z_iconst X (1 : Int32) dX12_canBe_8 (by decide) ?_
    refine z_goto X 13 dX12_canBe_9 (by decide) ?_
    exact H13 (1 : Int32) h
  · refine z_iconst X (0 : Int32) dX12_canBe_12 (by decide) ?_
    exact H13 (0 : Int32) h

def J_X12_canBeMany_24 (a_s : Nat → Int32) (r4 : Int32 → Int32 → Option (Int32)) (t0 : Int32) (t1 : Int32) (x2 : Int32) : Option (Int32) :=
  r4 (t1 + t0) (x2 + 1)

def L_X12_canBeMany_4 (a_s : Nat → Int32) : Nat → Int32 → Int32 → Option (Int32)
  | 0, _, _ => none
  | _n + 1, x1, x2 =>
    brn ((64 : Int32) ≤ x2) (some (x1)) (bnd (F_X12_canBe x2 a_s) (fun o1 => brn (o1 = 0) (J_X12_canBeMany_24 a_s (L_X12_canBeMany_4 a_s _n) (0 : Int32) x1 x2) (J_X12_canBeMany_24 a_s (L_X12_canBeMany_4 a_s _n) (1 : Int32) x1 x2)))

def F_X12_canBeMany (a_s : Nat → Int32) : Option (Int32) :=
  L_X12_canBeMany_4 a_s 100 (0 : Int32) (0 : Int32)
theorem dX12_canBeMany_0 : decode cX12_canBeMany 0 = .ok (.iconst 0, 1) := by decide +kernel
theorem dX12_canBeMany_1 : decode cX12_canBeMany 1 = .ok (.istore_n 1, 1) := by decide +kernel
theorem dX12_canBeMany_2 : decode cX12_canBeMany 2 = .ok (.iconst 0, 1) := by decide +kernel
theorem dX12_canBeMany_3 : decode cX12_canBeMany 3 = .ok (.istore_n 2, 1) := by decide +kernel
theorem dX12_canBeMany_4 : decode cX12_canBeMany 4 = .ok (.iload_n 2, 1) := by decide +kernel
theorem dX12_canBeMany_5 : decode cX12_canBeMany 5 = .ok (.bipush 64, 2) := by decide +kernel
theorem dX12_canBeMany_7 : decode cX12_canBeMany 7 = .ok (.if_icmp .ge 25, 3) := by decide +kernel
theorem dX12_canBeMany_10 : decode cX12_canBeMany 10 = .ok (.iload_n 1, 1) := by decide +kernel
theorem dX12_canBeMany_11 : decode cX12_canBeMany 11 = .ok (.aload_n 0, 1) := by decide +kernel
theorem dX12_canBeMany_12 : decode cX12_canBeMany 12 = .ok (.iload_n 2, 1) := by decide +kernel
theorem dX12_canBeMany_13 : decode cX12_canBeMany 13 = .ok (.invokevirtual 182, 3) := by decide +kernel
theorem dX12_canBeMany_16 : decode cX12_canBeMany 16 = .ok (.ifCond .eq 7, 3) := by decide +kernel
theorem dX12_canBeMany_19 : decode cX12_canBeMany 19 = .ok (.iconst 1, 1) := by decide +kernel
theorem dX12_canBeMany_20 : decode cX12_canBeMany 20 = .ok (.goto 4, 3) := by decide +kernel
theorem dX12_canBeMany_23 : decode cX12_canBeMany 23 = .ok (.iconst 0, 1) := by decide +kernel
theorem dX12_canBeMany_24 : decode cX12_canBeMany 24 = .ok (.iadd, 1) := by decide +kernel
theorem dX12_canBeMany_25 : decode cX12_canBeMany 25 = .ok (.istore_n 1, 1) := by decide +kernel
theorem dX12_canBeMany_26 : decode cX12_canBeMany 26 = .ok (.iinc 2 1, 3) := by decide +kernel
theorem dX12_canBeMany_29 : decode cX12_canBeMany 29 = .ok (.goto (-25), 3) := by decide +kernel
theorem dX12_canBeMany_32 : decode cX12_canBeMany 32 = .ok (.iload_n 1, 1) := by decide +kernel
theorem dX12_canBeMany_33 : decode cX12_canBeMany 33 = .ok (.ireturn, 1) := by decide +kernel
theorem k_X12_canBeMany : cardV yX12_canBeMany (Cond.code yX12_canBeMany cX12_canBeMany 3 (some .int)) 0 := ⟨⟨qi_X12_canBeMany, qv_X12_canBeMany⟩, qc_X12_canBeMany, qn_X12, by decide +kernel, by decide +kernel, by decide +kernel⟩
set_option maxHeartbeats 4000000 in
set_option maxRecDepth 100000 in
theorem c_X12_canBeMany (l : Launch) (D : va_G) (g : Nat → ClassId) (q_this q_s q_before q_saved q_past q_steps q_goes q_line q_text q_orders : Nat) (f_isSaved : Int32) (f_pastMany : Int32) (f_thrown : Int32) (f_reason : Int32) (f_detail : Int32) (f_isRefused : Int32) (f_goesMany : Int32) (f_roundSteps : Int32) (f_lineMany : Int32) (f_length : Int32) (f_at : Int32) (f_isWrong : Int32) (f_errorAt : Int32) (f_orderMany : Int32) (a_s : Nat → Int32) (o : Int32) (h : F_X12_canBeMany a_s = some o) : MR l yX12_canBeMany (Cond.code yX12_canBeMany cX12_canBeMany 3 (some .int)) { frames := 3, cells := 0, slots := 0, locals := 85 } D g [.ref q_this] [(q_this, .inr (12, [.ref q_s, .ref q_before, .ref q_saved, .int f_isSaved, .ref q_past, .int f_pastMany, .int f_thrown, .int f_reason, .int f_detail, .int f_isRefused, .ref q_steps, .ref q_goes, .int f_goesMany, .int f_roundSteps, .ref q_line, .int f_lineMany, .ref q_text, .int f_length, .int f_at, .int f_isWrong, .int f_errorAt, .ref q_orders, .int f_orderMany])), (q_s, .inl (g 0, 147, .inl a_s))] (some (.int o)) := by
  refine z_rd_start (by decide) (Nat.le_of_ble_eq_true rfl) ?_
  intro p e s m args below meth c Q X hr hQ
  refine z_lv (lv' := [(0, .ref q_this)]) rfl ?_
  have H4 : ∀ (n : Nat) (x1 : Int32) (x2 : Int32), L_X12_canBeMany_4 a_s  n x1 x2 = some o → Z p l e { frames := 3, cells := 0, slots := 0, locals := 85 } s m args below meth c Q 3 0 0 (IR D [(q_this, .inr (12, [.ref q_s, .ref q_before, .ref q_saved, .int f_isSaved, .ref q_past, .int f_pastMany, .int f_thrown, .int f_reason, .int f_detail, .int f_isRefused, .ref q_steps, .ref q_goes, .int f_goesMany, .int f_roundSteps, .ref q_line, .int f_lineMany, .ref q_text, .int f_length, .int f_at, .int f_isWrong, .int f_errorAt, .ref q_orders, .int f_orderMany])), (q_s, .inl (g 0, 147, .inl a_s))] s) 4 [(0, .ref q_this), (1, .int x1), (2, .int x2)] [] := by
    intro n
    induction n with
    | zero => intro x1 x2 h; cases h
    | succ n4 ih4 =>
      intro x1 x2 h
      have H24 : ∀ (t0 : Int32) (t1 : Int32) (x2 : Int32), J_X12_canBeMany_24 a_s (L_X12_canBeMany_4 a_s n4) t0 t1 x2 = some o → Z p l e { frames := 3, cells := 0, slots := 0, locals := 85 } s m args below meth c Q 3 0 0 (IR D [(q_this, .inr (12, [.ref q_s, .ref q_before, .ref q_saved, .int f_isSaved, .ref q_past, .int f_pastMany, .int f_thrown, .int f_reason, .int f_detail, .int f_isRefused, .ref q_steps, .ref q_goes, .int f_goesMany, .int f_roundSteps, .ref q_line, .int f_lineMany, .ref q_text, .int f_length, .int f_at, .int f_isWrong, .int f_errorAt, .ref q_orders, .int f_orderMany])), (q_s, .inl (g 0, 147, .inl a_s))] s) 24 [(0, .ref q_this), (2, .int x2)] [.int t0, .int t1] := by
        intro t0 t1 x2 h
        refine z_iadd X dX12_canBeMany_24 ?_
        refine z_istore_n X [(1, .int (t1 + t0)), (0, .ref q_this), (2, .int x2)] dX12_canBeMany_25 rfl (by decide) rfl ?_
        refine z_iinc X 2 [(2, .int (x2 + 1)), (1, .int (t1 + t0)), (0, .ref q_this)] dX12_canBeMany_26 rfl rfl (by decide) rfl ?_
        refine z_goto X 4 dX12_canBeMany_29 (by decide) ?_
        refine z_sub (lv' := [(0, .ref q_this), (1, .int (t1 + t0)), (2, .int (x2 + 1))]) [2, 1, 0] rfl ?_
        exact ih4 (t1 + t0) (x2 + 1) h
      refine z_iload_n X 2 dX12_canBeMany_4 rfl rfl ?_
      refine z_bipush X (64 : Int32) dX12_canBeMany_5 (by decide) ?_
      refine z_icmp_ge X 32 dX12_canBeMany_7 (by decide) h (fun _ h => ?_) (fun _ h => ?_)
      · refine z_iload_n X 1 dX12_canBeMany_32 rfl rfl ?_
        exact z_iretR X hQ hr dX12_canBeMany_33 h
      · refine z_iload_n X 1 dX12_canBeMany_10 rfl rfl ?_
        refine z_aload_n X 0 dX12_canBeMany_11 rfl rfl ?_
        refine z_iload_n X 2 dX12_canBeMany_12 rfl rfl ?_
        obtain ⟨o1, e2, h⟩ := bnd_p h
        refine z_rdV (rest := [.int x1]) (q0 := 0) (ci := 12) X IR_P k_X12_canBe (c_X12_canBe l D g q_this q_s q_before q_saved q_past q_steps q_goes q_line q_text q_orders x2 f_isSaved f_pastMany f_thrown f_reason f_detail f_isRefused f_goesMany f_roundSteps f_lineMany f_length f_at f_isWrong f_errorAt f_orderMany a_s o1 e2) ql_X12_X12_canBe dX12_canBeMany_13 [0, 1] rfl rfl rfl rfl rfl rfl ⟨Nat.le_of_ble_eq_true rfl, Nat.le_of_ble_eq_true rfl, rfl, rfl, Nat.le_of_ble_eq_true rfl, Nat.le_of_ble_eq_true rfl⟩ (Nat.le_of_ble_eq_true rfl) ?_
        refine z_if_eq X 23 dX12_canBeMany_16 (by decide) h (fun _ h => ?_) (fun _ h => ?_)
        · refine z_iconst X (0 : Int32) dX12_canBeMany_23 (by decide) ?_
          refine z_sub (lv' := [(0, .ref q_this), (2, .int x2)]) [0, 2] rfl ?_
          exact H24 (0 : Int32) x1 x2 h
        · refine z_iconst X (1 : Int32) dX12_canBeMany_19 (by decide) ?_
          refine z_goto X 24 dX12_canBeMany_20 (by decide) ?_
          refine z_sub (lv' := [(0, .ref q_this), (2, .int x2)]) [0, 2] rfl ?_
          exact H24 (1 : Int32) x1 x2 h
  refine z_iconst X (0 : Int32) dX12_canBeMany_0 (by decide) ?_
  refine z_istore_n X [(1, .int (0 : Int32)), (0, .ref q_this)] dX12_canBeMany_1 rfl (by decide) rfl ?_
  refine z_iconst X (0 : Int32) dX12_canBeMany_2 (by decide) ?_
  refine z_istore_n X [(2, .int (0 : Int32)), (1, .int (0 : Int32)), (0, .ref q_this)] dX12_canBeMany_3 rfl (by decide) rfl ?_
  refine z_sub (lv' := [(0, .ref q_this), (1, .int (0 : Int32)), (2, .int (0 : Int32))]) [2, 1, 0] rfl ?_
  exact H4 100 (0 : Int32) (0 : Int32) h

def J_X12_doTell_32 (p1 : Int32) (p2 : Int32) (t0 : Int32) (f_thrown : Int32) (f_reason : Int32) (f_detail : Int32) (f_isRefused : Int32) (a_s : Nat → Int32) : Option (Int32 × Int32 × Int32 × Int32 × Int32 × (Nat → Int32)) :=
  bnd (F_X12_fails t0 f_thrown) (fun o5 => some (o5.1, o5.2, f_reason, f_detail, f_isRefused, a_s))

def J_X12_doTell_18 (p1 : Int32) (p2 : Int32) (f_thrown : Int32) (f_reason : Int32) (f_detail : Int32) (f_isRefused : Int32) (a_s : Nat → Int32) : Option (Int32 × Int32 × Int32 × Int32 × Int32 × (Nat → Int32)) :=
  bnd (F_X12_isPost p1 a_s) (fun o3 => brn (o3 = 0) (J_X12_doTell_32 p1 p2 (1 : Int32) f_thrown f_reason f_detail f_isRefused a_s) (J_X12_doTell_32 p1 p2 (2 : Int32) f_thrown f_reason f_detail f_isRefused a_s))

def F_X12_doTell (p1 : Int32) (p2 : Int32) (f_thrown : Int32) (f_reason : Int32) (f_detail : Int32) (f_isRefused : Int32) (a_s : Nat → Int32) : Option (Int32 × Int32 × Int32 × Int32 × Int32 × (Nat → Int32)) :=
  bnd (F_X12_isPost p1 a_s) (fun o1 => brn (o1 = 0) (J_X12_doTell_18 p1 p2 f_thrown f_reason f_detail f_isRefused a_s) (bnd (F_X12_in p2 (0 : Int32) (14 : Int32)) (fun o7 => brn (o7 = 0) (J_X12_doTell_18 p1 p2 f_thrown f_reason f_detail f_isRefused a_s) (grd (inb (8 : Int32) 147) (brn ((a_s (8 : Int32).toNatClampNeg) = 0) (grd (inb (12 : Int32) 147) (bnd (F_X12_refuse (3 : Int32) (5 : Int32) (a_s (12 : Int32).toNatClampNeg) f_thrown f_reason f_detail f_isRefused) (fun o9 => some (o9.1, o9.2.1, o9.2.2.1, o9.2.2.2.1, o9.2.2.2.2, a_s)))) (grd (inb (((139 : Int32) + ((2 : Int32) * p1)) + (1 : Int32)) 147) (brn ((a_s (((139 : Int32) + ((2 : Int32) * p1)) + (1 : Int32)).toNatClampNeg) = p2) (bnd (F_X12_refuse (3 : Int32) (6 : Int32) p2 f_thrown f_reason f_detail f_isRefused) (fun o11 => some (o11.1, o11.2.1, o11.2.2.1, o11.2.2.2.1, o11.2.2.2.2, a_s))) (grd (inb (((139 : Int32) + ((2 : Int32) * p1)) + (1 : Int32)) 147) (bnd (F_X12_canBeMany (upd a_s (((139 : Int32) + ((2 : Int32) * p1)) + (1 : Int32)).toNatClampNeg p2)) (fun o13 => some (o13, f_thrown, f_reason, f_detail, f_isRefused, (upd a_s (((139 : Int32) + ((2 : Int32) * p1)) + (1 : Int32)).toNatClampNeg p2))))))))))))
theorem dX12_doTell_0 : decode cX12_doTell 0 = .ok (.aload_n 0, 1) := by decide +kernel
theorem dX12_doTell_1 : decode cX12_doTell 1 = .ok (.iload_n 1, 1) := by decide +kernel
theorem dX12_doTell_2 : decode cX12_doTell 2 = .ok (.invokevirtual 176, 3) := by decide +kernel
theorem dX12_doTell_5 : decode cX12_doTell 5 = .ok (.ifCond .eq 13, 3) := by decide +kernel
theorem dX12_doTell_8 : decode cX12_doTell 8 = .ok (.iload_n 2, 1) := by decide +kernel
theorem dX12_doTell_9 : decode cX12_doTell 9 = .ok (.iconst 0, 1) := by decide +kernel
theorem dX12_doTell_10 : decode cX12_doTell 10 = .ok (.bipush 14, 2) := by decide +kernel
theorem dX12_doTell_12 : decode cX12_doTell 12 = .ok (.invokestatic 64, 3) := by decide +kernel
theorem dX12_doTell_15 : decode cX12_doTell 15 = .ok (.ifCond .ne 21, 3) := by decide +kernel
theorem dX12_doTell_18 : decode cX12_doTell 18 = .ok (.aload_n 0, 1) := by decide +kernel
theorem dX12_doTell_19 : decode cX12_doTell 19 = .ok (.aload_n 0, 1) := by decide +kernel
theorem dX12_doTell_20 : decode cX12_doTell 20 = .ok (.iload_n 1, 1) := by decide +kernel
theorem dX12_doTell_21 : decode cX12_doTell 21 = .ok (.invokevirtual 176, 3) := by decide +kernel
theorem dX12_doTell_24 : decode cX12_doTell 24 = .ok (.ifCond .eq 7, 3) := by decide +kernel
theorem dX12_doTell_27 : decode cX12_doTell 27 = .ok (.iconst 2, 1) := by decide +kernel
theorem dX12_doTell_28 : decode cX12_doTell 28 = .ok (.goto 4, 3) := by decide +kernel
theorem dX12_doTell_31 : decode cX12_doTell 31 = .ok (.iconst 1, 1) := by decide +kernel
theorem dX12_doTell_32 : decode cX12_doTell 32 = .ok (.invokevirtual 88, 3) := by decide +kernel
theorem dX12_doTell_35 : decode cX12_doTell 35 = .ok (.ireturn, 1) := by decide +kernel
theorem dX12_doTell_36 : decode cX12_doTell 36 = .ok (.aload_n 0, 1) := by decide +kernel
theorem dX12_doTell_37 : decode cX12_doTell 37 = .ok (.getfield 9, 3) := by decide +kernel
theorem dX12_doTell_40 : decode cX12_doTell 40 = .ok (.bipush 8, 2) := by decide +kernel
theorem dX12_doTell_42 : decode cX12_doTell 42 = .ok (.iaload, 1) := by decide +kernel
theorem dX12_doTell_43 : decode cX12_doTell 43 = .ok (.ifCond .ne 17, 3) := by decide +kernel
theorem dX12_doTell_46 : decode cX12_doTell 46 = .ok (.aload_n 0, 1) := by decide +kernel
theorem dX12_doTell_47 : decode cX12_doTell 47 = .ok (.iconst 3, 1) := by decide +kernel
theorem dX12_doTell_48 : decode cX12_doTell 48 = .ok (.iconst 5, 1) := by decide +kernel
theorem dX12_doTell_49 : decode cX12_doTell 49 = .ok (.aload_n 0, 1) := by decide +kernel
theorem dX12_doTell_50 : decode cX12_doTell 50 = .ok (.getfield 9, 3) := by decide +kernel
theorem dX12_doTell_53 : decode cX12_doTell 53 = .ok (.bipush 12, 2) := by decide +kernel
theorem dX12_doTell_55 : decode cX12_doTell 55 = .ok (.iaload, 1) := by decide +kernel
theorem dX12_doTell_56 : decode cX12_doTell 56 = .ok (.invokevirtual 94, 3) := by decide +kernel
theorem dX12_doTell_59 : decode cX12_doTell 59 = .ok (.ireturn, 1) := by decide +kernel
theorem dX12_doTell_60 : decode cX12_doTell 60 = .ok (.sipush 139, 3) := by decide +kernel
theorem dX12_doTell_63 : decode cX12_doTell 63 = .ok (.iconst 2, 1) := by decide +kernel
theorem dX12_doTell_64 : decode cX12_doTell 64 = .ok (.iload_n 1, 1) := by decide +kernel
theorem dX12_doTell_65 : decode cX12_doTell 65 = .ok (.imul, 1) := by decide +kernel
theorem dX12_doTell_66 : decode cX12_doTell 66 = .ok (.iadd, 1) := by decide +kernel
theorem dX12_doTell_67 : decode cX12_doTell 67 = .ok (.iconst 1, 1) := by decide +kernel
theorem dX12_doTell_68 : decode cX12_doTell 68 = .ok (.iadd, 1) := by decide +kernel
theorem dX12_doTell_69 : decode cX12_doTell 69 = .ok (.istore_n 3, 1) := by decide +kernel
theorem dX12_doTell_70 : decode cX12_doTell 70 = .ok (.aload_n 0, 1) := by decide +kernel
theorem dX12_doTell_71 : decode cX12_doTell 71 = .ok (.getfield 9, 3) := by decide +kernel
theorem dX12_doTell_74 : decode cX12_doTell 74 = .ok (.iload_n 3, 1) := by decide +kernel
theorem dX12_doTell_75 : decode cX12_doTell 75 = .ok (.iaload, 1) := by decide +kernel
theorem dX12_doTell_76 : decode cX12_doTell 76 = .ok (.iload_n 2, 1) := by decide +kernel
theorem dX12_doTell_77 : decode cX12_doTell 77 = .ok (.if_icmp .ne 12, 3) := by decide +kernel
theorem dX12_doTell_80 : decode cX12_doTell 80 = .ok (.aload_n 0, 1) := by decide +kernel
theorem dX12_doTell_81 : decode cX12_doTell 81 = .ok (.iconst 3, 1) := by decide +kernel
theorem dX12_doTell_82 : decode cX12_doTell 82 = .ok (.bipush 6, 2) := by decide +kernel
theorem dX12_doTell_84 : decode cX12_doTell 84 = .ok (.iload_n 2, 1) := by decide +kernel
theorem dX12_doTell_85 : decode cX12_doTell 85 = .ok (.invokevirtual 94, 3) := by decide +kernel
theorem dX12_doTell_88 : decode cX12_doTell 88 = .ok (.ireturn, 1) := by decide +kernel
theorem dX12_doTell_89 : decode cX12_doTell 89 = .ok (.aload_n 0, 1) := by decide +kernel
theorem dX12_doTell_90 : decode cX12_doTell 90 = .ok (.getfield 9, 3) := by decide +kernel
theorem dX12_doTell_93 : decode cX12_doTell 93 = .ok (.iload_n 3, 1) := by decide +kernel
theorem dX12_doTell_94 : decode cX12_doTell 94 = .ok (.iload_n 2, 1) := by decide +kernel
theorem dX12_doTell_95 : decode cX12_doTell 95 = .ok (.iastore, 1) := by decide +kernel
theorem dX12_doTell_96 : decode cX12_doTell 96 = .ok (.aload_n 0, 1) := by decide +kernel
theorem dX12_doTell_97 : decode cX12_doTell 97 = .ok (.invokevirtual 185, 3) := by decide +kernel
theorem dX12_doTell_100 : decode cX12_doTell 100 = .ok (.ireturn, 1) := by decide +kernel
theorem k_X12_doTell : cardV yX12_doTell (Cond.code yX12_doTell cX12_doTell 4 (some .int)) 2 := ⟨⟨qi_X12_doTell, qv_X12_doTell⟩, qc_X12_doTell, qn_X12, by decide +kernel, by decide +kernel, by decide +kernel⟩
set_option maxHeartbeats 4000000 in
set_option maxRecDepth 100000 in
theorem c_X12_doTell (l : Launch) (D : va_G) (g : Nat → ClassId) (q_this q_s q_before q_saved q_past q_steps q_goes q_line q_text q_orders : Nat) (p1 p2 : Int32) (f_isSaved : Int32) (f_pastMany : Int32) (f_thrown : Int32) (f_reason : Int32) (f_detail : Int32) (f_isRefused : Int32) (f_goesMany : Int32) (f_roundSteps : Int32) (f_lineMany : Int32) (f_length : Int32) (f_at : Int32) (f_isWrong : Int32) (f_errorAt : Int32) (f_orderMany : Int32) (a_s : Nat → Int32) (o : Int32 × Int32 × Int32 × Int32 × Int32 × (Nat → Int32)) (h : F_X12_doTell p1 p2 f_thrown f_reason f_detail f_isRefused a_s = some o) : MW l yX12_doTell (Cond.code yX12_doTell cX12_doTell 4 (some .int)) { frames := 4, cells := 0, slots := 0, locals := 107 } D g [.ref q_this, .int p1, .int p2] [(q_this, .inr (12, [.ref q_s, .ref q_before, .ref q_saved, .int f_isSaved, .ref q_past, .int f_pastMany, .int f_thrown, .int f_reason, .int f_detail, .int f_isRefused, .ref q_steps, .ref q_goes, .int f_goesMany, .int f_roundSteps, .ref q_line, .int f_lineMany, .ref q_text, .int f_length, .int f_at, .int f_isWrong, .int f_errorAt, .ref q_orders, .int f_orderMany])), (q_s, .inl (g 0, 147, .inl a_s))] (some (.int o.1)) [(q_this, .inr (12, [.ref q_s, .ref q_before, .ref q_saved, .int f_isSaved, .ref q_past, .int f_pastMany, .int o.2.1, .int o.2.2.1, .int o.2.2.2.1, .int o.2.2.2.2.1, .ref q_steps, .ref q_goes, .int f_goesMany, .int f_roundSteps, .ref q_line, .int f_lineMany, .ref q_text, .int f_length, .int f_at, .int f_isWrong, .int f_errorAt, .ref q_orders, .int f_orderMany])), (q_s, .inl (g 0, 147, .inl o.2.2.2.2.2))] := by
  refine z_wr_start (by decide) (Nat.le_of_ble_eq_true rfl) ?_
  intro p e s m args below meth c Q A X hr hQ hA
  refine z_lv (lv' := [(0, .ref q_this), (1, .int p1), (2, .int p2)]) rfl ?_
  have H32 : ∀ (t0 : Int32) (f_thrown : Int32) (f_reason : Int32) (f_detail : Int32) (f_isRefused : Int32) (a_s : Nat → Int32), J_X12_doTell_32 p1 p2 t0 f_thrown f_reason f_detail f_isRefused a_s = some o → Z p l e { frames := 4, cells := 0, slots := 0, locals := 107 } s m args below meth c Q 4 0 0 (IW D A s [(q_this, .inr (12, [.ref q_s, .ref q_before, .ref q_saved, .int f_isSaved, .ref q_past, .int f_pastMany, .int f_thrown, .int f_reason, .int f_detail, .int f_isRefused, .ref q_steps, .ref q_goes, .int f_goesMany, .int f_roundSteps, .ref q_line, .int f_lineMany, .ref q_text, .int f_length, .int f_at, .int f_isWrong, .int f_errorAt, .ref q_orders, .int f_orderMany])), (q_s, .inl (g 0, 147, .inl a_s))]) 32 [] [.int t0, .ref q_this] := by
    intro t0 f_thrown f_reason f_detail f_isRefused a_s h
    obtain ⟨o5, e6, h⟩ := bnd_p h
    refine z_wrV (rest := []) (q0 := 0) (ci := 12) (ws' := [(q_this, .inr (12, [.ref q_s, .ref q_before, .ref q_saved, .int f_isSaved, .ref q_past, .int f_pastMany, .int o5.2, .int f_reason, .int f_detail, .int f_isRefused, .ref q_steps, .ref q_goes, .int f_goesMany, .int f_roundSteps, .ref q_line, .int f_lineMany, .ref q_text, .int f_length, .int f_at, .int f_isWrong, .int f_errorAt, .ref q_orders, .int f_orderMany])), (q_s, .inl (g 0, 147, .inl a_s))]) (wr := [(q_s, .inl (g 0, 147, .inl a_s))]) (as := [q_this, q_s]) X k_X12_fails (c_X12_fails l D g q_this q_s q_before q_saved q_past q_steps q_goes q_line q_text q_orders t0 f_isSaved f_pastMany f_thrown f_reason f_detail f_isRefused f_goesMany f_roundSteps f_lineMany f_length f_at f_isWrong f_errorAt f_orderMany o5 e6) ql_X12_X12_fails dX12_doTell_32 [0] [1] ⟨rfl, rfl, rfl, rfl, rfl, rfl, rfl, rfl⟩ rfl rfl rfl rfl rfl ⟨Nat.le_of_ble_eq_true rfl, Nat.le_of_ble_eq_true rfl, rfl, rfl, Nat.le_of_ble_eq_true rfl, Nat.le_of_ble_eq_true rfl⟩ (Nat.le_of_ble_eq_true rfl) ?_
    cases h
    exact z_iretW X hQ hA hr dX12_doTell_35
  have H18 : ∀ (f_thrown : Int32) (f_reason : Int32) (f_detail : Int32) (f_isRefused : Int32) (a_s : Nat → Int32), J_X12_doTell_18 p1 p2 f_thrown f_reason f_detail f_isRefused a_s = some o → Z p l e { frames := 4, cells := 0, slots := 0, locals := 107 } s m args below meth c Q 4 0 0 (IW D A s [(q_this, .inr (12, [.ref q_s, .ref q_before, .ref q_saved, .int f_isSaved, .ref q_past, .int f_pastMany, .int f_thrown, .int f_reason, .int f_detail, .int f_isRefused, .ref q_steps, .ref q_goes, .int f_goesMany, .int f_roundSteps, .ref q_line, .int f_lineMany, .ref q_text, .int f_length, .int f_at, .int f_isWrong, .int f_errorAt, .ref q_orders, .int f_orderMany])), (q_s, .inl (g 0, 147, .inl a_s))]) 18 [(0, .ref q_this), (1, .int p1)] [] := by
    intro f_thrown f_reason f_detail f_isRefused a_s h
    refine z_aload_n X 0 dX12_doTell_18 rfl rfl ?_
    refine z_aload_n X 0 dX12_doTell_19 rfl rfl ?_
    refine z_iload_n X 1 dX12_doTell_20 rfl rfl ?_
    obtain ⟨o3, e4, h⟩ := bnd_p h
    refine z_rdV (rest := [.ref q_this]) (q0 := 0) (ci := 12) X IW_P k_X12_isPost (c_X12_isPost l D g q_this q_s q_before q_saved q_past q_steps q_goes q_line q_text q_orders p1 f_isSaved f_pastMany f_thrown f_reason f_detail f_isRefused f_goesMany f_roundSteps f_lineMany f_length f_at f_isWrong f_errorAt f_orderMany a_s o3 e4) ql_X12_X12_isPost dX12_doTell_21 [0, 1] rfl rfl rfl rfl rfl rfl ⟨Nat.le_of_ble_eq_true rfl, Nat.le_of_ble_eq_true rfl, rfl, rfl, Nat.le_of_ble_eq_true rfl, Nat.le_of_ble_eq_true rfl⟩ (Nat.le_of_ble_eq_true rfl) ?_
    refine z_if_eq X 31 dX12_doTell_24 (by decide) h (fun _ h => ?_) (fun _ h => ?_)
    · refine z_iconst X (1 : Int32) dX12_doTell_31 (by decide) ?_
      refine z_sub (lv' := []) [] rfl ?_
      exact H32 (1 : Int32) f_thrown f_reason f_detail f_isRefused a_s h
    · refine z_iconst X (2 : Int32) dX12_doTell_27 (by decide) ?_
      refine z_goto X 32 dX12_doTell_28 (by decide) ?_
      refine z_sub (lv' := []) [] rfl ?_
      exact H32 (2 : Int32) f_thrown f_reason f_detail f_isRefused a_s h
  refine z_aload_n X 0 dX12_doTell_0 rfl rfl ?_
  refine z_iload_n X 1 dX12_doTell_1 rfl rfl ?_
  obtain ⟨o1, e2, h⟩ := bnd_p h
  refine z_rdV (rest := []) (q0 := 0) (ci := 12) X IW_P k_X12_isPost (c_X12_isPost l D g q_this q_s q_before q_saved q_past q_steps q_goes q_line q_text q_orders p1 f_isSaved f_pastMany f_thrown f_reason f_detail f_isRefused f_goesMany f_roundSteps f_lineMany f_length f_at f_isWrong f_errorAt f_orderMany a_s o1 e2) ql_X12_X12_isPost dX12_doTell_2 [0, 1] rfl rfl rfl rfl rfl rfl ⟨Nat.le_of_ble_eq_true rfl, Nat.le_of_ble_eq_true rfl, rfl, rfl, Nat.le_of_ble_eq_true rfl, Nat.le_of_ble_eq_true rfl⟩ (Nat.le_of_ble_eq_true rfl) ?_
  refine z_if_eq X 18 dX12_doTell_5 (by decide) h (fun _ h => ?_) (fun _ h => ?_)
  · refine z_sub (lv' := [(0, .ref q_this), (1, .int p1)]) [0, 1] rfl ?_
    exact H18 f_thrown f_reason f_detail f_isRefused a_s h
  · refine z_iload_n X 2 dX12_doTell_8 rfl rfl ?_
    refine z_iconst X (0 : Int32) dX12_doTell_9 (by decide) ?_
    refine z_bipush X (14 : Int32) dX12_doTell_10 (by decide) ?_
    obtain ⟨o7, e8, h⟩ := bnd_p h
    refine z_rdS (rest := []) X IW_P k_X12_in (c_X12_in l D g p2 (0 : Int32) (14 : Int32) o7 e8) ql_X12_X12_in dX12_doTell_12 [] rfl rfl rfl ⟨Nat.le_of_ble_eq_true rfl, Nat.le_of_ble_eq_true rfl, rfl, rfl, Nat.le_of_ble_eq_true rfl, Nat.le_of_ble_eq_true rfl⟩ (Nat.le_of_ble_eq_true rfl) ?_
    refine z_if_ne X 36 dX12_doTell_15 (by decide) h (fun _ h => ?_) (fun _ h => ?_)
    · refine z_sub (lv' := [(0, .ref q_this), (1, .int p1)]) [0, 1] rfl ?_
      exact H18 f_thrown f_reason f_detail f_isRefused a_s h
    · refine z_aload_n X 0 dX12_doTell_36 rfl rfl ?_
      refine z_get (q0 := 0) (k := 0) (ci := 12) X IW_P iw_X12 rfl qf_X12_X12_s (by decide) dX12_doTell_37 rfl rfl ?_
      refine z_bipush X (8 : Int32) dX12_doTell_40 (by decide) ?_
      refine z_iald (q0 := 1) X IW_P dX12_doTell_42 rfl h (fun h => ?_)
      refine z_if_ne X 60 dX12_doTell_43 (by decide) h (fun _ h => ?_) (fun _ h => ?_)
      · refine z_aload_n X 0 dX12_doTell_46 rfl rfl ?_
        refine z_iconst X (3 : Int32) dX12_doTell_47 (by decide) ?_
        refine z_iconst X (5 : Int32) dX12_doTell_48 (by decide) ?_
        refine z_aload_n X 0 dX12_doTell_49 rfl rfl ?_
        refine z_get (q0 := 0) (k := 0) (ci := 12) X IW_P iw_X12 rfl qf_X12_X12_s (by decide) dX12_doTell_50 rfl rfl ?_
        refine z_bipush X (12 : Int32) dX12_doTell_53 (by decide) ?_
        refine z_iald (q0 := 1) X IW_P dX12_doTell_55 rfl h (fun h => ?_)
        obtain ⟨o9, e10, h⟩ := bnd_p h
        refine z_wrV (rest := []) (q0 := 0) (ci := 12) (ws' := [(q_this, .inr (12, [.ref q_s, .ref q_before, .ref q_saved, .int f_isSaved, .ref q_past, .int f_pastMany, .int o9.2.1, .int o9.2.2.1, .int o9.2.2.2.1, .int o9.2.2.2.2, .ref q_steps, .ref q_goes, .int f_goesMany, .int f_roundSteps, .ref q_line, .int f_lineMany, .ref q_text, .int f_length, .int f_at, .int f_isWrong, .int f_errorAt, .ref q_orders, .int f_orderMany])), (q_s, .inl (g 0, 147, .inl a_s))]) (wr := [(q_s, .inl (g 0, 147, .inl a_s))]) (as := [q_this, q_s]) X k_X12_refuse (c_X12_refuse l D g q_this q_s q_before q_saved q_past q_steps q_goes q_line q_text q_orders (3 : Int32) (5 : Int32) (a_s (12 : Int32).toNatClampNeg) f_isSaved f_pastMany f_thrown f_reason f_detail f_isRefused f_goesMany f_roundSteps f_lineMany f_length f_at f_isWrong f_errorAt f_orderMany o9 e10) ql_X12_X12_refuse dX12_doTell_56 [0] [1] ⟨rfl, rfl, rfl, rfl, rfl, rfl, rfl, rfl⟩ rfl rfl rfl rfl rfl ⟨Nat.le_of_ble_eq_true rfl, Nat.le_of_ble_eq_true rfl, rfl, rfl, Nat.le_of_ble_eq_true rfl, Nat.le_of_ble_eq_true rfl⟩ (Nat.le_of_ble_eq_true rfl) ?_
        cases h
        exact z_iretW X hQ hA hr dX12_doTell_59
      · refine z_sipush X (139 : Int32) dX12_doTell_60 (by decide) ?_
        refine z_iconst X (2 : Int32) dX12_doTell_63 (by decide) ?_
        refine z_iload_n X 1 dX12_doTell_64 rfl rfl ?_
        refine z_imul X dX12_doTell_65 ?_
        refine z_iadd X dX12_doTell_66 ?_
        refine z_iconst X (1 : Int32) dX12_doTell_67 (by decide) ?_
        refine z_iadd X dX12_doTell_68 ?_
        refine z_istore_n X [(3, .int (((139 : Int32) + ((2 : Int32) * p1)) + (1 : Int32))), (0, .ref q_this), (1, .int p1), (2, .int p2)] dX12_doTell_69 rfl (by decide) rfl ?_
        refine z_aload_n X 1 dX12_doTell_70 rfl rfl ?_
        refine z_get (q0 := 0) (k := 0) (ci := 12) X IW_P iw_X12 rfl qf_X12_X12_s (by decide) dX12_doTell_71 rfl rfl ?_
        refine z_iload_n X 0 dX12_doTell_74 rfl rfl ?_
        refine z_iald (q0 := 1) X IW_P dX12_doTell_75 rfl h (fun h => ?_)
        refine z_iload_n X 3 dX12_doTell_76 rfl rfl ?_
        refine z_icmp_ne X 89 dX12_doTell_77 (by decide) h (fun _ h => ?_) (fun _ h => ?_)
        · refine z_aload_n X 1 dX12_doTell_80 rfl rfl ?_
          refine z_iconst X (3 : Int32) dX12_doTell_81 (by decide) ?_
          refine z_bipush X (6 : Int32) dX12_doTell_82 (by decide) ?_
          refine z_iload_n X 3 dX12_doTell_84 rfl rfl ?_
          obtain ⟨o11, e12, h⟩ := bnd_p h
          refine z_wrV (rest := []) (q0 := 0) (ci := 12) (ws' := [(q_this, .inr (12, [.ref q_s, .ref q_before, .ref q_saved, .int f_isSaved, .ref q_past, .int f_pastMany, .int o11.2.1, .int o11.2.2.1, .int o11.2.2.2.1, .int o11.2.2.2.2, .ref q_steps, .ref q_goes, .int f_goesMany, .int f_roundSteps, .ref q_line, .int f_lineMany, .ref q_text, .int f_length, .int f_at, .int f_isWrong, .int f_errorAt, .ref q_orders, .int f_orderMany])), (q_s, .inl (g 0, 147, .inl a_s))]) (wr := [(q_s, .inl (g 0, 147, .inl a_s))]) (as := [q_this, q_s]) X k_X12_refuse (c_X12_refuse l D g q_this q_s q_before q_saved q_past q_steps q_goes q_line q_text q_orders (3 : Int32) (6 : Int32) p2 f_isSaved f_pastMany f_thrown f_reason f_detail f_isRefused f_goesMany f_roundSteps f_lineMany f_length f_at f_isWrong f_errorAt f_orderMany o11 e12) ql_X12_X12_refuse dX12_doTell_85 [0] [1] ⟨rfl, rfl, rfl, rfl, rfl, rfl, rfl, rfl⟩ rfl rfl rfl rfl rfl ⟨Nat.le_of_ble_eq_true rfl, Nat.le_of_ble_eq_true rfl, rfl, rfl, Nat.le_of_ble_eq_true rfl, Nat.le_of_ble_eq_true rfl⟩ (Nat.le_of_ble_eq_true rfl) ?_
          cases h
          exact z_iretW X hQ hA hr dX12_doTell_88
        · refine z_aload_n X 1 dX12_doTell_89 rfl rfl ?_
          refine z_get (q0 := 0) (k := 0) (ci := 12) X IW_P iw_X12 rfl qf_X12_X12_s (by decide) dX12_doTell_90 rfl rfl ?_
          refine z_iload_n X 0 dX12_doTell_93 rfl rfl ?_
          refine z_iload_n X 3 dX12_doTell_94 rfl rfl ?_
          refine z_iast (q0 := 1) (ws' := [(q_this, .inr (12, [.ref q_s, .ref q_before, .ref q_saved, .int f_isSaved, .ref q_past, .int f_pastMany, .int f_thrown, .int f_reason, .int f_detail, .int f_isRefused, .ref q_steps, .ref q_goes, .int f_goesMany, .int f_roundSteps, .ref q_line, .int f_lineMany, .ref q_text, .int f_length, .int f_at, .int f_isWrong, .int f_errorAt, .ref q_orders, .int f_orderMany])), (q_s, .inl (g 0, 147, .inl (upd a_s (((139 : Int32) + ((2 : Int32) * p1)) + (1 : Int32)).toNatClampNeg p2)))]) X dX12_doTell_95 rfl h rfl (fun h => ?_)
          refine z_aload_n X 1 dX12_doTell_96 rfl rfl ?_
          obtain ⟨o13, e14, h⟩ := bnd_p h
          refine z_rdV (rest := []) (q0 := 0) (ci := 12) X IW_P k_X12_canBeMany (c_X12_canBeMany l D g q_this q_s q_before q_saved q_past q_steps q_goes q_line q_text q_orders f_isSaved f_pastMany f_thrown f_reason f_detail f_isRefused f_goesMany f_roundSteps f_lineMany f_length f_at f_isWrong f_errorAt f_orderMany (upd a_s (((139 : Int32) + ((2 : Int32) * p1)) + (1 : Int32)).toNatClampNeg p2) o13 e14) ql_X12_X12_canBeMany dX12_doTell_97 [0, 1] rfl rfl rfl rfl rfl rfl ⟨Nat.le_of_ble_eq_true rfl, Nat.le_of_ble_eq_true rfl, rfl, rfl, Nat.le_of_ble_eq_true rfl, Nat.le_of_ble_eq_true rfl⟩ (Nat.le_of_ble_eq_true rfl) ?_
          cases h
          exact z_iretW X hQ hA hr dX12_doTell_100

def F_X12_tell (p1 : Int32) (p2 : Int32) (f_pastMany : Int32) (f_thrown : Int32) (f_reason : Int32) (f_detail : Int32) (f_isRefused : Int32) (a_s : Nat → Int32) (a_before : Nat → Int32) (a_past : Nat → Int32) : Option (Int32 × Int32 × Int32 × Int32 × Int32 × Int32 × (Nat → Int32) × (Nat → Int32) × (Nat → Int32)) :=
  bnd (F_X12_keep a_s f_thrown a_before) (fun o1 => bnd (F_X12_doTell p1 p2 o1.1 f_reason f_detail f_isRefused a_s) (fun o3 => bnd (F_X12_ends o3.1 o3.2.1 o1.2 f_pastMany o3.2.2.2.2.2 a_past) (fun o5 => some (o5.1, o5.2.1, o3.2.1, o3.2.2.1, o3.2.2.2.1, o3.2.2.2.2.1, o5.2.2.1, o1.2, o5.2.2.2))))
theorem dX12_tell_0 : decode cX12_tell 0 = .ok (.aload_n 0, 1) := by decide +kernel
theorem dX12_tell_1 : decode cX12_tell 1 = .ok (.invokevirtual 101, 3) := by decide +kernel
theorem dX12_tell_4 : decode cX12_tell 4 = .ok (.aload_n 0, 1) := by decide +kernel
theorem dX12_tell_5 : decode cX12_tell 5 = .ok (.aload_n 0, 1) := by decide +kernel
theorem dX12_tell_6 : decode cX12_tell 6 = .ok (.iload_n 1, 1) := by decide +kernel
theorem dX12_tell_7 : decode cX12_tell 7 = .ok (.iload_n 2, 1) := by decide +kernel
theorem dX12_tell_8 : decode cX12_tell 8 = .ok (.invokevirtual 189, 3) := by decide +kernel
theorem dX12_tell_11 : decode cX12_tell 11 = .ok (.invokevirtual 107, 3) := by decide +kernel
theorem dX12_tell_14 : decode cX12_tell 14 = .ok (.ireturn, 1) := by decide +kernel
theorem k_X12_tell : cardV yX12_tell (Cond.code yX12_tell cX12_tell 3 (some .int)) 2 := ⟨⟨qi_X12_tell, qv_X12_tell⟩, qc_X12_tell, qn_X12, by decide +kernel, by decide +kernel, by decide +kernel⟩
set_option maxHeartbeats 4000000 in
set_option maxRecDepth 100000 in
theorem c_X12_tell (l : Launch) (D : va_G) (g : Nat → ClassId) (q_this q_s q_before q_saved q_past q_steps q_goes q_line q_text q_orders : Nat) (p1 p2 : Int32) (f_isSaved : Int32) (f_pastMany : Int32) (f_thrown : Int32) (f_reason : Int32) (f_detail : Int32) (f_isRefused : Int32) (f_goesMany : Int32) (f_roundSteps : Int32) (f_lineMany : Int32) (f_length : Int32) (f_at : Int32) (f_isWrong : Int32) (f_errorAt : Int32) (f_orderMany : Int32) (a_s : Nat → Int32) (a_before : Nat → Int32) (a_past : Nat → Int32) (o : Int32 × Int32 × Int32 × Int32 × Int32 × Int32 × (Nat → Int32) × (Nat → Int32) × (Nat → Int32)) (h : F_X12_tell p1 p2 f_pastMany f_thrown f_reason f_detail f_isRefused a_s a_before a_past = some o) : MW l yX12_tell (Cond.code yX12_tell cX12_tell 3 (some .int)) { frames := 5, cells := 0, slots := 0, locals := 130 } D g [.ref q_this, .int p1, .int p2] [(q_this, .inr (12, [.ref q_s, .ref q_before, .ref q_saved, .int f_isSaved, .ref q_past, .int f_pastMany, .int f_thrown, .int f_reason, .int f_detail, .int f_isRefused, .ref q_steps, .ref q_goes, .int f_goesMany, .int f_roundSteps, .ref q_line, .int f_lineMany, .ref q_text, .int f_length, .int f_at, .int f_isWrong, .int f_errorAt, .ref q_orders, .int f_orderMany])), (q_s, .inl (g 0, 147, .inl a_s)), (q_before, .inl (g 0, 147, .inl a_before)), (q_past, .inl (g 0, 1176, .inl a_past))] (some (.int o.1)) [(q_this, .inr (12, [.ref q_s, .ref q_before, .ref q_saved, .int f_isSaved, .ref q_past, .int o.2.1, .int o.2.2.1, .int o.2.2.2.1, .int o.2.2.2.2.1, .int o.2.2.2.2.2.1, .ref q_steps, .ref q_goes, .int f_goesMany, .int f_roundSteps, .ref q_line, .int f_lineMany, .ref q_text, .int f_length, .int f_at, .int f_isWrong, .int f_errorAt, .ref q_orders, .int f_orderMany])), (q_s, .inl (g 0, 147, .inl o.2.2.2.2.2.2.1)), (q_before, .inl (g 0, 147, .inl o.2.2.2.2.2.2.2.1)), (q_past, .inl (g 0, 1176, .inl o.2.2.2.2.2.2.2.2))] := by
  refine z_wr_start (by decide) (Nat.le_of_ble_eq_true rfl) ?_
  intro p e s m args below meth c Q A X hr hQ hA
  refine z_lv (lv' := [(0, .ref q_this), (1, .int p1), (2, .int p2)]) rfl ?_
  refine z_aload_n X 0 dX12_tell_0 rfl rfl ?_
  obtain ⟨o1, e2, h⟩ := bnd_p h
  refine z_wrV (rest := []) (q0 := 0) (ci := 12) (ws' := [(q_this, .inr (12, [.ref q_s, .ref q_before, .ref q_saved, .int f_isSaved, .ref q_past, .int f_pastMany, .int o1.1, .int f_reason, .int f_detail, .int f_isRefused, .ref q_steps, .ref q_goes, .int f_goesMany, .int f_roundSteps, .ref q_line, .int f_lineMany, .ref q_text, .int f_length, .int f_at, .int f_isWrong, .int f_errorAt, .ref q_orders, .int f_orderMany])), (q_s, .inl (g 0, 147, .inl a_s)), (q_before, .inl (g 0, 147, .inl o1.2)), (q_past, .inl (g 0, 1176, .inl a_past))]) (wr := [(q_past, .inl (g 0, 1176, .inl a_past))]) (as := [q_this, q_s, q_before, q_past]) X k_X12_keep (c_X12_keep l D g q_this q_s q_before q_saved q_past q_steps q_goes q_line q_text q_orders f_isSaved f_pastMany f_thrown f_reason f_detail f_isRefused f_goesMany f_roundSteps f_lineMany f_length f_at f_isWrong f_errorAt f_orderMany a_s a_before o1 e2) ql_X12_X12_keep dX12_tell_1 [0, 1, 2] [3] ⟨rfl, rfl, rfl, rfl, rfl, rfl, rfl, rfl⟩ rfl rfl rfl rfl rfl ⟨Nat.le_of_ble_eq_true rfl, Nat.le_of_ble_eq_true rfl, rfl, rfl, Nat.le_of_ble_eq_true rfl, Nat.le_of_ble_eq_true rfl⟩ (Nat.le_of_ble_eq_true rfl) ?_
  refine z_aload_n X 0 dX12_tell_4 rfl rfl ?_
  refine z_aload_n X 0 dX12_tell_5 rfl rfl ?_
  refine z_iload_n X 1 dX12_tell_6 rfl rfl ?_
  refine z_iload_n X 2 dX12_tell_7 rfl rfl ?_
  obtain ⟨o3, e4, h⟩ := bnd_p h
  refine z_wrV (rest := [.ref q_this]) (q0 := 0) (ci := 12) (ws' := [(q_this, .inr (12, [.ref q_s, .ref q_before, .ref q_saved, .int f_isSaved, .ref q_past, .int f_pastMany, .int o3.2.1, .int o3.2.2.1, .int o3.2.2.2.1, .int o3.2.2.2.2.1, .ref q_steps, .ref q_goes, .int f_goesMany, .int f_roundSteps, .ref q_line, .int f_lineMany, .ref q_text, .int f_length, .int f_at, .int f_isWrong, .int f_errorAt, .ref q_orders, .int f_orderMany])), (q_s, .inl (g 0, 147, .inl o3.2.2.2.2.2)), (q_before, .inl (g 0, 147, .inl o1.2)), (q_past, .inl (g 0, 1176, .inl a_past))]) (wr := [(q_before, .inl (g 0, 147, .inl o1.2)), (q_past, .inl (g 0, 1176, .inl a_past))]) (as := [q_this, q_s, q_before, q_past]) X k_X12_doTell (c_X12_doTell l D g q_this q_s q_before q_saved q_past q_steps q_goes q_line q_text q_orders p1 p2 f_isSaved f_pastMany o1.1 f_reason f_detail f_isRefused f_goesMany f_roundSteps f_lineMany f_length f_at f_isWrong f_errorAt f_orderMany a_s o3 e4) ql_X12_X12_doTell dX12_tell_8 [0, 1] [2, 3] ⟨rfl, rfl, rfl, rfl, rfl, rfl, rfl, rfl⟩ rfl rfl rfl rfl rfl ⟨Nat.le_of_ble_eq_true rfl, Nat.le_of_ble_eq_true rfl, rfl, rfl, Nat.le_of_ble_eq_true rfl, Nat.le_of_ble_eq_true rfl⟩ (Nat.le_of_ble_eq_true rfl) ?_
  obtain ⟨o5, e6, h⟩ := bnd_p h
  refine z_wrV (rest := []) (q0 := 0) (ci := 12) (ws' := [(q_this, .inr (12, [.ref q_s, .ref q_before, .ref q_saved, .int f_isSaved, .ref q_past, .int o5.2.1, .int o3.2.1, .int o3.2.2.1, .int o3.2.2.2.1, .int o3.2.2.2.2.1, .ref q_steps, .ref q_goes, .int f_goesMany, .int f_roundSteps, .ref q_line, .int f_lineMany, .ref q_text, .int f_length, .int f_at, .int f_isWrong, .int f_errorAt, .ref q_orders, .int f_orderMany])), (q_s, .inl (g 0, 147, .inl o5.2.2.1)), (q_before, .inl (g 0, 147, .inl o1.2)), (q_past, .inl (g 0, 1176, .inl o5.2.2.2))]) (wr := []) (as := [q_this, q_s, q_before, q_past]) X k_X12_ends (c_X12_ends l D g q_this q_s q_before q_saved q_past q_steps q_goes q_line q_text q_orders o3.1 f_isSaved f_pastMany o3.2.1 o3.2.2.1 o3.2.2.2.1 o3.2.2.2.2.1 f_goesMany f_roundSteps f_lineMany f_length f_at f_isWrong f_errorAt f_orderMany o3.2.2.2.2.2 o1.2 a_past o5 e6) ql_X12_X12_ends dX12_tell_11 [0, 1, 2, 3] [] ⟨rfl, rfl, rfl, rfl, rfl, rfl, rfl, rfl⟩ rfl rfl rfl rfl rfl ⟨Nat.le_of_ble_eq_true rfl, Nat.le_of_ble_eq_true rfl, rfl, rfl, Nat.le_of_ble_eq_true rfl, Nat.le_of_ble_eq_true rfl⟩ (Nat.le_of_ble_eq_true rfl) ?_
  cases h
  exact z_iretW X hQ hA hr dX12_tell_14

def J_X12_postOf_76 (p1 : Int32) (p2 : Int32) (a_s : Nat → Int32) (t0 : Int32) (x3 : Int32) (f_thrown : Int32) : Option (Int32 × Int32) :=
  brn (t0 ≤ 0) (some (x3, t0)) (some ((0 : Int32), t0))

def J_X12_postOf_72 (p1 : Int32) (p2 : Int32) (a_s : Nat → Int32) (x3 : Int32) (f_thrown : Int32) : Option (Int32 × Int32) :=
  J_X12_postOf_76 p1 p2 a_s f_thrown x3 f_thrown

def J_X12_postOf_55 (p1 : Int32) (p2 : Int32) (a_s : Nat → Int32) (t0 : Int32) (f_thrown : Int32) : Option (Int32 × Int32) :=
  brn (f_thrown = 0) (brn (0 ≤ t0) (J_X12_postOf_72 p1 p2 a_s t0 f_thrown) (J_X12_postOf_76 p1 p2 a_s (3 : Int32) t0 f_thrown)) (J_X12_postOf_72 p1 p2 a_s t0 f_thrown)

def J_X12_postOf_27 (p1 : Int32) (p2 : Int32) (a_s : Nat → Int32) (t0 : Int32) (f_thrown : Int32) : Option (Int32 × Int32) :=
  brn (t0 ≤ 0) (grd (inb (((139 : Int32) + ((2 : Int32) * p1)) + p2) 147) (J_X12_postOf_55 p1 p2 a_s (a_s (((139 : Int32) + ((2 : Int32) * p1)) + p2).toNatClampNeg) t0)) (J_X12_postOf_55 p1 p2 a_s (0 : Int32) t0)

def F_X12_postOf (p1 : Int32) (p2 : Int32) (a_s : Nat → Int32) (f_thrown : Int32) : Option (Int32 × Int32) :=
  bnd (F_X12_isPost p1 a_s) (fun o1 => brn (o1 = 0) (J_X12_postOf_27 p1 p2 a_s (1 : Int32) f_thrown) (bnd (F_X12_in p2 (0 : Int32) (1 : Int32)) (fun o3 => brn (o3 = 0) (J_X12_postOf_27 p1 p2 a_s (2 : Int32) f_thrown) (J_X12_postOf_27 p1 p2 a_s (0 : Int32) f_thrown))))
theorem dX12_postOf_0 : decode cX12_postOf 0 = .ok (.aload_n 0, 1) := by decide +kernel
theorem dX12_postOf_1 : decode cX12_postOf 1 = .ok (.aload_n 0, 1) := by decide +kernel
theorem dX12_postOf_2 : decode cX12_postOf 2 = .ok (.iload_n 1, 1) := by decide +kernel
theorem dX12_postOf_3 : decode cX12_postOf 3 = .ok (.invokevirtual 176, 3) := by decide +kernel
theorem dX12_postOf_6 : decode cX12_postOf 6 = .ok (.ifCond .ne 7, 3) := by decide +kernel
theorem dX12_postOf_9 : decode cX12_postOf 9 = .ok (.iconst 1, 1) := by decide +kernel
theorem dX12_postOf_10 : decode cX12_postOf 10 = .ok (.goto 17, 3) := by decide +kernel
theorem dX12_postOf_13 : decode cX12_postOf 13 = .ok (.iload_n 2, 1) := by decide +kernel
theorem dX12_postOf_14 : decode cX12_postOf 14 = .ok (.iconst 0, 1) := by decide +kernel
theorem dX12_postOf_15 : decode cX12_postOf 15 = .ok (.iconst 1, 1) := by decide +kernel
theorem dX12_postOf_16 : decode cX12_postOf 16 = .ok (.invokestatic 64, 3) := by decide +kernel
theorem dX12_postOf_19 : decode cX12_postOf 19 = .ok (.ifCond .ne 7, 3) := by decide +kernel
theorem dX12_postOf_22 : decode cX12_postOf 22 = .ok (.iconst 2, 1) := by decide +kernel
theorem dX12_postOf_23 : decode cX12_postOf 23 = .ok (.goto 4, 3) := by decide +kernel
theorem dX12_postOf_26 : decode cX12_postOf 26 = .ok (.iconst 0, 1) := by decide +kernel
theorem dX12_postOf_27 : decode cX12_postOf 27 = .ok (.putfield 42, 3) := by decide +kernel
theorem dX12_postOf_30 : decode cX12_postOf 30 = .ok (.aload_n 0, 1) := by decide +kernel
theorem dX12_postOf_31 : decode cX12_postOf 31 = .ok (.getfield 42, 3) := by decide +kernel
theorem dX12_postOf_34 : decode cX12_postOf 34 = .ok (.ifCond .le 7, 3) := by decide +kernel
theorem dX12_postOf_37 : decode cX12_postOf 37 = .ok (.iconst 0, 1) := by decide +kernel
theorem dX12_postOf_38 : decode cX12_postOf 38 = .ok (.goto 17, 3) := by decide +kernel
theorem dX12_postOf_41 : decode cX12_postOf 41 = .ok (.aload_n 0, 1) := by decide +kernel
theorem dX12_postOf_42 : decode cX12_postOf 42 = .ok (.getfield 9, 3) := by decide +kernel
theorem dX12_postOf_45 : decode cX12_postOf 45 = .ok (.sipush 139, 3) := by decide +kernel
theorem dX12_postOf_48 : decode cX12_postOf 48 = .ok (.iconst 2, 1) := by decide +kernel
theorem dX12_postOf_49 : decode cX12_postOf 49 = .ok (.iload_n 1, 1) := by decide +kernel
theorem dX12_postOf_50 : decode cX12_postOf 50 = .ok (.imul, 1) := by decide +kernel
theorem dX12_postOf_51 : decode cX12_postOf 51 = .ok (.iadd, 1) := by decide +kernel
theorem dX12_postOf_52 : decode cX12_postOf 52 = .ok (.iload_n 2, 1) := by decide +kernel
theorem dX12_postOf_53 : decode cX12_postOf 53 = .ok (.iadd, 1) := by decide +kernel
theorem dX12_postOf_54 : decode cX12_postOf 54 = .ok (.iaload, 1) := by decide +kernel
theorem dX12_postOf_55 : decode cX12_postOf 55 = .ok (.istore_n 3, 1) := by decide +kernel
theorem dX12_postOf_56 : decode cX12_postOf 56 = .ok (.aload_n 0, 1) := by decide +kernel
theorem dX12_postOf_57 : decode cX12_postOf 57 = .ok (.aload_n 0, 1) := by decide +kernel
theorem dX12_postOf_58 : decode cX12_postOf 58 = .ok (.getfield 42, 3) := by decide +kernel
theorem dX12_postOf_61 : decode cX12_postOf 61 = .ok (.ifCond .ne 11, 3) := by decide +kernel
theorem dX12_postOf_64 : decode cX12_postOf 64 = .ok (.iload_n 3, 1) := by decide +kernel
theorem dX12_postOf_65 : decode cX12_postOf 65 = .ok (.ifCond .ge 7, 3) := by decide +kernel
theorem dX12_postOf_68 : decode cX12_postOf 68 = .ok (.iconst 3, 1) := by decide +kernel
theorem dX12_postOf_69 : decode cX12_postOf 69 = .ok (.goto 7, 3) := by decide +kernel
theorem dX12_postOf_72 : decode cX12_postOf 72 = .ok (.aload_n 0, 1) := by decide +kernel
theorem dX12_postOf_73 : decode cX12_postOf 73 = .ok (.getfield 42, 3) := by decide +kernel
theorem dX12_postOf_76 : decode cX12_postOf 76 = .ok (.putfield 42, 3) := by decide +kernel
theorem dX12_postOf_79 : decode cX12_postOf 79 = .ok (.aload_n 0, 1) := by decide +kernel
theorem dX12_postOf_80 : decode cX12_postOf 80 = .ok (.getfield 42, 3) := by decide +kernel
theorem dX12_postOf_83 : decode cX12_postOf 83 = .ok (.ifCond .le 7, 3) := by decide +kernel
theorem dX12_postOf_86 : decode cX12_postOf 86 = .ok (.iconst 0, 1) := by decide +kernel
theorem dX12_postOf_87 : decode cX12_postOf 87 = .ok (.goto 4, 3) := by decide +kernel
theorem dX12_postOf_90 : decode cX12_postOf 90 = .ok (.iload_n 3, 1) := by decide +kernel
theorem dX12_postOf_91 : decode cX12_postOf 91 = .ok (.ireturn, 1) := by decide +kernel
theorem k_X12_postOf : cardV yX12_postOf (Cond.code yX12_postOf cX12_postOf 4 (some .int)) 2 := ⟨⟨qi_X12_postOf, qv_X12_postOf⟩, qc_X12_postOf, qn_X12, by decide +kernel, by decide +kernel, by decide +kernel⟩
set_option maxHeartbeats 4000000 in
set_option maxRecDepth 100000 in
theorem c_X12_postOf (l : Launch) (D : va_G) (g : Nat → ClassId) (q_this q_s q_before q_saved q_past q_steps q_goes q_line q_text q_orders : Nat) (p1 p2 : Int32) (f_isSaved : Int32) (f_pastMany : Int32) (f_thrown : Int32) (f_reason : Int32) (f_detail : Int32) (f_isRefused : Int32) (f_goesMany : Int32) (f_roundSteps : Int32) (f_lineMany : Int32) (f_length : Int32) (f_at : Int32) (f_isWrong : Int32) (f_errorAt : Int32) (f_orderMany : Int32) (a_s : Nat → Int32) (o : Int32 × Int32) (h : F_X12_postOf p1 p2 a_s f_thrown = some o) : MW l yX12_postOf (Cond.code yX12_postOf cX12_postOf 4 (some .int)) { frames := 2, cells := 0, slots := 0, locals := 43 } D g [.ref q_this, .int p1, .int p2] [(q_this, .inr (12, [.ref q_s, .ref q_before, .ref q_saved, .int f_isSaved, .ref q_past, .int f_pastMany, .int f_thrown, .int f_reason, .int f_detail, .int f_isRefused, .ref q_steps, .ref q_goes, .int f_goesMany, .int f_roundSteps, .ref q_line, .int f_lineMany, .ref q_text, .int f_length, .int f_at, .int f_isWrong, .int f_errorAt, .ref q_orders, .int f_orderMany])), (q_s, .inl (g 0, 147, .inl a_s))] (some (.int o.1)) [(q_this, .inr (12, [.ref q_s, .ref q_before, .ref q_saved, .int f_isSaved, .ref q_past, .int f_pastMany, .int o.2, .int f_reason, .int f_detail, .int f_isRefused, .ref q_steps, .ref q_goes, .int f_goesMany, .int f_roundSteps, .ref q_line, .int f_lineMany, .ref q_text, .int f_length, .int f_at, .int f_isWrong, .int f_errorAt, .ref q_orders, .int f_orderMany])), (q_s, .inl (g 0, 147, .inl a_s))] := by
  refine z_wr_start (by decide) (Nat.le_of_ble_eq_true rfl) ?_
  intro p e s m args below meth c Q A X hr hQ hA
  refine z_lv (lv' := [(0, .ref q_this), (1, .int p1), (2, .int p2)]) rfl ?_
  have H76 : ∀ (t0 : Int32) (x3 : Int32) (f_thrown : Int32), J_X12_postOf_76 p1 p2 a_s t0 x3 f_thrown = some o → Z p l e { frames := 2, cells := 0, slots := 0, locals := 43 } s m args below meth c Q 4 0 0 (IW D A s [(q_this, .inr (12, [.ref q_s, .ref q_before, .ref q_saved, .int f_isSaved, .ref q_past, .int f_pastMany, .int f_thrown, .int f_reason, .int f_detail, .int f_isRefused, .ref q_steps, .ref q_goes, .int f_goesMany, .int f_roundSteps, .ref q_line, .int f_lineMany, .ref q_text, .int f_length, .int f_at, .int f_isWrong, .int f_errorAt, .ref q_orders, .int f_orderMany])), (q_s, .inl (g 0, 147, .inl a_s))]) 76 [(0, .ref q_this), (3, .int x3)] [.int t0, .ref q_this] := by
    intro t0 x3 f_thrown h
    refine z_put (q0 := 0) (k := 6) (ci := 12) (ws' := [(q_this, .inr (12, [.ref q_s, .ref q_before, .ref q_saved, .int f_isSaved, .ref q_past, .int f_pastMany, .int t0, .int f_reason, .int f_detail, .int f_isRefused, .ref q_steps, .ref q_goes, .int f_goesMany, .int f_roundSteps, .ref q_line, .int f_lineMany, .ref q_text, .int f_length, .int f_at, .int f_isWrong, .int f_errorAt, .ref q_orders, .int f_orderMany])), (q_s, .inl (g 0, 147, .inl a_s))]) X iw_X12 tyX12_ok nmX12 rfl qf_X12_X12_thrown (by decide) rfl rfl dX12_postOf_76 rfl rfl rfl (Nat.le_of_ble_eq_true rfl) rfl ?_
    refine z_aload_n X 0 dX12_postOf_79 rfl rfl ?_
    refine z_get (q0 := 0) (k := 6) (ci := 12) X IW_P iw_X12 rfl qf_X12_X12_thrown (by decide) dX12_postOf_80 rfl rfl ?_
    refine z_if_le X 90 dX12_postOf_83 (by decide) h (fun _ h => ?_) (fun _ h => ?_)
    · refine z_iload_n X 1 dX12_postOf_90 rfl rfl ?_
      cases h
      exact z_iretW X hQ hA hr dX12_postOf_91
    · refine z_iconst X (0 : Int32) dX12_postOf_86 (by decide) ?_
      refine z_goto X 91 dX12_postOf_87 (by decide) ?_
      cases h
      exact z_iretW X hQ hA hr dX12_postOf_91
  have H72 : ∀ (x3 : Int32) (f_thrown : Int32), J_X12_postOf_72 p1 p2 a_s x3 f_thrown = some o → Z p l e { frames := 2, cells := 0, slots := 0, locals := 43 } s m args below meth c Q 4 0 0 (IW D A s [(q_this, .inr (12, [.ref q_s, .ref q_before, .ref q_saved, .int f_isSaved, .ref q_past, .int f_pastMany, .int f_thrown, .int f_reason, .int f_detail, .int f_isRefused, .ref q_steps, .ref q_goes, .int f_goesMany, .int f_roundSteps, .ref q_line, .int f_lineMany, .ref q_text, .int f_length, .int f_at, .int f_isWrong, .int f_errorAt, .ref q_orders, .int f_orderMany])), (q_s, .inl (g 0, 147, .inl a_s))]) 72 [(0, .ref q_this), (3, .int x3)] [.ref q_this] := by
    intro x3 f_thrown h
    refine z_aload_n X 0 dX12_postOf_72 rfl rfl ?_
    refine z_get (q0 := 0) (k := 6) (ci := 12) X IW_P iw_X12 rfl qf_X12_X12_thrown (by decide) dX12_postOf_73 rfl rfl ?_
    exact H76 f_thrown x3 f_thrown h
  have H55 : ∀ (t0 : Int32) (f_thrown : Int32), J_X12_postOf_55 p1 p2 a_s t0 f_thrown = some o → Z p l e { frames := 2, cells := 0, slots := 0, locals := 43 } s m args below meth c Q 4 0 0 (IW D A s [(q_this, .inr (12, [.ref q_s, .ref q_before, .ref q_saved, .int f_isSaved, .ref q_past, .int f_pastMany, .int f_thrown, .int f_reason, .int f_detail, .int f_isRefused, .ref q_steps, .ref q_goes, .int f_goesMany, .int f_roundSteps, .ref q_line, .int f_lineMany, .ref q_text, .int f_length, .int f_at, .int f_isWrong, .int f_errorAt, .ref q_orders, .int f_orderMany])), (q_s, .inl (g 0, 147, .inl a_s))]) 55 [(0, .ref q_this)] [.int t0] := by
    intro t0 f_thrown h
    refine z_istore_n X [(3, .int t0), (0, .ref q_this)] dX12_postOf_55 rfl (by decide) rfl ?_
    refine z_aload_n X 1 dX12_postOf_56 rfl rfl ?_
    refine z_aload_n X 1 dX12_postOf_57 rfl rfl ?_
    refine z_get (q0 := 0) (k := 6) (ci := 12) X IW_P iw_X12 rfl qf_X12_X12_thrown (by decide) dX12_postOf_58 rfl rfl ?_
    refine z_if_ne X 72 dX12_postOf_61 (by decide) h (fun _ h => ?_) (fun _ h => ?_)
    · refine z_iload_n X 0 dX12_postOf_64 rfl rfl ?_
      refine z_if_ge X 72 dX12_postOf_65 (by decide) h (fun _ h => ?_) (fun _ h => ?_)
      · refine z_sub (lv' := [(0, .ref q_this), (3, .int t0)]) [1, 0] rfl ?_
        exact H72 t0 f_thrown h
      · refine z_iconst X (3 : Int32) dX12_postOf_68 (by decide) ?_
        refine z_goto X 76 dX12_postOf_69 (by decide) ?_
        refine z_sub (lv' := [(0, .ref q_this), (3, .int t0)]) [1, 0] rfl ?_
        exact H76 (3 : Int32) t0 f_thrown h
    · refine z_sub (lv' := [(0, .ref q_this), (3, .int t0)]) [1, 0] rfl ?_
      exact H72 t0 f_thrown h
  have H27 : ∀ (t0 : Int32) (f_thrown : Int32), J_X12_postOf_27 p1 p2 a_s t0 f_thrown = some o → Z p l e { frames := 2, cells := 0, slots := 0, locals := 43 } s m args below meth c Q 4 0 0 (IW D A s [(q_this, .inr (12, [.ref q_s, .ref q_before, .ref q_saved, .int f_isSaved, .ref q_past, .int f_pastMany, .int f_thrown, .int f_reason, .int f_detail, .int f_isRefused, .ref q_steps, .ref q_goes, .int f_goesMany, .int f_roundSteps, .ref q_line, .int f_lineMany, .ref q_text, .int f_length, .int f_at, .int f_isWrong, .int f_errorAt, .ref q_orders, .int f_orderMany])), (q_s, .inl (g 0, 147, .inl a_s))]) 27 [(0, .ref q_this), (1, .int p1), (2, .int p2)] [.int t0, .ref q_this] := by
    intro t0 f_thrown h
    refine z_put (q0 := 0) (k := 6) (ci := 12) (ws' := [(q_this, .inr (12, [.ref q_s, .ref q_before, .ref q_saved, .int f_isSaved, .ref q_past, .int f_pastMany, .int t0, .int f_reason, .int f_detail, .int f_isRefused, .ref q_steps, .ref q_goes, .int f_goesMany, .int f_roundSteps, .ref q_line, .int f_lineMany, .ref q_text, .int f_length, .int f_at, .int f_isWrong, .int f_errorAt, .ref q_orders, .int f_orderMany])), (q_s, .inl (g 0, 147, .inl a_s))]) X iw_X12 tyX12_ok nmX12 rfl qf_X12_X12_thrown (by decide) rfl rfl dX12_postOf_27 rfl rfl rfl (Nat.le_of_ble_eq_true rfl) rfl ?_
    refine z_aload_n X 0 dX12_postOf_30 rfl rfl ?_
    refine z_get (q0 := 0) (k := 6) (ci := 12) X IW_P iw_X12 rfl qf_X12_X12_thrown (by decide) dX12_postOf_31 rfl rfl ?_
    refine z_if_le X 41 dX12_postOf_34 (by decide) h (fun _ h => ?_) (fun _ h => ?_)
    · refine z_aload_n X 0 dX12_postOf_41 rfl rfl ?_
      refine z_get (q0 := 0) (k := 0) (ci := 12) X IW_P iw_X12 rfl qf_X12_X12_s (by decide) dX12_postOf_42 rfl rfl ?_
      refine z_sipush X (139 : Int32) dX12_postOf_45 (by decide) ?_
      refine z_iconst X (2 : Int32) dX12_postOf_48 (by decide) ?_
      refine z_iload_n X 1 dX12_postOf_49 rfl rfl ?_
      refine z_imul X dX12_postOf_50 ?_
      refine z_iadd X dX12_postOf_51 ?_
      refine z_iload_n X 2 dX12_postOf_52 rfl rfl ?_
      refine z_iadd X dX12_postOf_53 ?_
      refine z_iald (q0 := 1) X IW_P dX12_postOf_54 rfl h (fun h => ?_)
      refine z_sub (lv' := [(0, .ref q_this)]) [0] rfl ?_
      exact H55 (a_s (((139 : Int32) + ((2 : Int32) * p1)) + p2).toNatClampNeg) t0 h
    · refine z_iconst X (0 : Int32) dX12_postOf_37 (by decide) ?_
      refine z_goto X 55 dX12_postOf_38 (by decide) ?_
      refine z_sub (lv' := [(0, .ref q_this)]) [0] rfl ?_
      exact H55 (0 : Int32) t0 h
  refine z_aload_n X 0 dX12_postOf_0 rfl rfl ?_
  refine z_aload_n X 0 dX12_postOf_1 rfl rfl ?_
  refine z_iload_n X 1 dX12_postOf_2 rfl rfl ?_
  obtain ⟨o1, e2, h⟩ := bnd_p h
  refine z_rdV (rest := [.ref q_this]) (q0 := 0) (ci := 12) X IW_P k_X12_isPost (c_X12_isPost l D g q_this q_s q_before q_saved q_past q_steps q_goes q_line q_text q_orders p1 f_isSaved f_pastMany f_thrown f_reason f_detail f_isRefused f_goesMany f_roundSteps f_lineMany f_length f_at f_isWrong f_errorAt f_orderMany a_s o1 e2) ql_X12_X12_isPost dX12_postOf_3 [0, 1] rfl rfl rfl rfl rfl rfl ⟨Nat.le_of_ble_eq_true rfl, Nat.le_of_ble_eq_true rfl, rfl, rfl, Nat.le_of_ble_eq_true rfl, Nat.le_of_ble_eq_true rfl⟩ (Nat.le_of_ble_eq_true rfl) ?_
  refine z_if_ne X 13 dX12_postOf_6 (by decide) h (fun _ h => ?_) (fun _ h => ?_)
  · refine z_iconst X (1 : Int32) dX12_postOf_9 (by decide) ?_
    refine z_goto X 27 dX12_postOf_10 (by decide) ?_
    exact H27 (1 : Int32) f_thrown h
  · refine z_iload_n X 2 dX12_postOf_13 rfl rfl ?_
    refine z_iconst X (0 : Int32) dX12_postOf_14 (by decide) ?_
    refine z_iconst X (1 : Int32) dX12_postOf_15 (by decide) ?_
    obtain ⟨o3, e4, h⟩ := bnd_p h
    refine z_rdS (rest := [.ref q_this]) X IW_P k_X12_in (c_X12_in l D g p2 (0 : Int32) (1 : Int32) o3 e4) ql_X12_X12_in dX12_postOf_16 [] rfl rfl rfl ⟨Nat.le_of_ble_eq_true rfl, Nat.le_of_ble_eq_true rfl, rfl, rfl, Nat.le_of_ble_eq_true rfl, Nat.le_of_ble_eq_true rfl⟩ (Nat.le_of_ble_eq_true rfl) ?_
    refine z_if_ne X 26 dX12_postOf_19 (by decide) h (fun _ h => ?_) (fun _ h => ?_)
    · refine z_iconst X (2 : Int32) dX12_postOf_22 (by decide) ?_
      refine z_goto X 27 dX12_postOf_23 (by decide) ?_
      exact H27 (2 : Int32) f_thrown h
    · refine z_iconst X (0 : Int32) dX12_postOf_26 (by decide) ?_
      exact H27 (0 : Int32) f_thrown h

def J_X12_fits_27 (p1 : Int32) (a_s : Nat → Int32) (t0 : Int32) (f_thrown : Int32) : Option (Int32 × Int32) :=
  brn (t0 = 0) (bnd (F_X12_canBe p1 a_s) (fun o3 => brn (o3 = 0) (some ((0 : Int32), t0)) (some ((1 : Int32), t0)))) (some ((0 : Int32), t0))

def F_X12_fits (p1 : Int32) (a_s : Nat → Int32) (f_thrown : Int32) : Option (Int32 × Int32) :=
  bnd (F_X12_isCell p1) (fun o1 => brn (o1 = 0) (J_X12_fits_27 p1 a_s (1 : Int32) f_thrown) (grd (inb (8 : Int32) 147) (brn ((a_s (8 : Int32).toNatClampNeg) = 0) (J_X12_fits_27 p1 a_s (2 : Int32) f_thrown) (J_X12_fits_27 p1 a_s (0 : Int32) f_thrown))))
theorem dX12_fits_0 : decode cX12_fits 0 = .ok (.aload_n 0, 1) := by decide +kernel
theorem dX12_fits_1 : decode cX12_fits 1 = .ok (.iload_n 1, 1) := by decide +kernel
theorem dX12_fits_2 : decode cX12_fits 2 = .ok (.invokestatic 81, 3) := by decide +kernel
theorem dX12_fits_5 : decode cX12_fits 5 = .ok (.ifCond .ne 7, 3) := by decide +kernel
theorem dX12_fits_8 : decode cX12_fits 8 = .ok (.iconst 1, 1) := by decide +kernel
theorem dX12_fits_9 : decode cX12_fits 9 = .ok (.goto 18, 3) := by decide +kernel
theorem dX12_fits_12 : decode cX12_fits 12 = .ok (.aload_n 0, 1) := by decide +kernel
theorem dX12_fits_13 : decode cX12_fits 13 = .ok (.getfield 9, 3) := by decide +kernel
theorem dX12_fits_16 : decode cX12_fits 16 = .ok (.bipush 8, 2) := by decide +kernel
theorem dX12_fits_18 : decode cX12_fits 18 = .ok (.iaload, 1) := by decide +kernel
theorem dX12_fits_19 : decode cX12_fits 19 = .ok (.ifCond .ne 7, 3) := by decide +kernel
theorem dX12_fits_22 : decode cX12_fits 22 = .ok (.iconst 2, 1) := by decide +kernel
theorem dX12_fits_23 : decode cX12_fits 23 = .ok (.goto 4, 3) := by decide +kernel
theorem dX12_fits_26 : decode cX12_fits 26 = .ok (.iconst 0, 1) := by decide +kernel
theorem dX12_fits_27 : decode cX12_fits 27 = .ok (.putfield 42, 3) := by decide +kernel
theorem dX12_fits_30 : decode cX12_fits 30 = .ok (.aload_n 0, 1) := by decide +kernel
theorem dX12_fits_31 : decode cX12_fits 31 = .ok (.getfield 42, 3) := by decide +kernel
theorem dX12_fits_34 : decode cX12_fits 34 = .ok (.ifCond .ne 15, 3) := by decide +kernel
theorem dX12_fits_37 : decode cX12_fits 37 = .ok (.aload_n 0, 1) := by decide +kernel
theorem dX12_fits_38 : decode cX12_fits 38 = .ok (.iload_n 1, 1) := by decide +kernel
theorem dX12_fits_39 : decode cX12_fits 39 = .ok (.invokevirtual 182, 3) := by decide +kernel
theorem dX12_fits_42 : decode cX12_fits 42 = .ok (.ifCond .eq 7, 3) := by decide +kernel
theorem dX12_fits_45 : decode cX12_fits 45 = .ok (.iconst 1, 1) := by decide +kernel
theorem dX12_fits_46 : decode cX12_fits 46 = .ok (.goto 4, 3) := by decide +kernel
theorem dX12_fits_49 : decode cX12_fits 49 = .ok (.iconst 0, 1) := by decide +kernel
theorem dX12_fits_50 : decode cX12_fits 50 = .ok (.ireturn, 1) := by decide +kernel
theorem k_X12_fits : cardV yX12_fits (Cond.code yX12_fits cX12_fits 2 (some .boolean)) 1 := ⟨⟨qi_X12_fits, qv_X12_fits⟩, qc_X12_fits, qn_X12, by decide +kernel, by decide +kernel, by decide +kernel⟩
set_option maxHeartbeats 4000000 in
set_option maxRecDepth 100000 in
theorem c_X12_fits (l : Launch) (D : va_G) (g : Nat → ClassId) (q_this q_s q_before q_saved q_past q_steps q_goes q_line q_text q_orders : Nat) (p1 : Int32) (f_isSaved : Int32) (f_pastMany : Int32) (f_thrown : Int32) (f_reason : Int32) (f_detail : Int32) (f_isRefused : Int32) (f_goesMany : Int32) (f_roundSteps : Int32) (f_lineMany : Int32) (f_length : Int32) (f_at : Int32) (f_isWrong : Int32) (f_errorAt : Int32) (f_orderMany : Int32) (a_s : Nat → Int32) (o : Int32 × Int32) (h : F_X12_fits p1 a_s f_thrown = some o) : MW l yX12_fits (Cond.code yX12_fits cX12_fits 2 (some .boolean)) { frames := 3, cells := 0, slots := 0, locals := 85 } D g [.ref q_this, .int p1] [(q_this, .inr (12, [.ref q_s, .ref q_before, .ref q_saved, .int f_isSaved, .ref q_past, .int f_pastMany, .int f_thrown, .int f_reason, .int f_detail, .int f_isRefused, .ref q_steps, .ref q_goes, .int f_goesMany, .int f_roundSteps, .ref q_line, .int f_lineMany, .ref q_text, .int f_length, .int f_at, .int f_isWrong, .int f_errorAt, .ref q_orders, .int f_orderMany])), (q_s, .inl (g 0, 147, .inl a_s))] (some (.int o.1)) [(q_this, .inr (12, [.ref q_s, .ref q_before, .ref q_saved, .int f_isSaved, .ref q_past, .int f_pastMany, .int o.2, .int f_reason, .int f_detail, .int f_isRefused, .ref q_steps, .ref q_goes, .int f_goesMany, .int f_roundSteps, .ref q_line, .int f_lineMany, .ref q_text, .int f_length, .int f_at, .int f_isWrong, .int f_errorAt, .ref q_orders, .int f_orderMany])), (q_s, .inl (g 0, 147, .inl a_s))] := by
  refine z_wr_start (by decide) (Nat.le_of_ble_eq_true rfl) ?_
  intro p e s m args below meth c Q A X hr hQ hA
  refine z_lv (lv' := [(0, .ref q_this), (1, .int p1)]) rfl ?_
  have H27 : ∀ (t0 : Int32) (f_thrown : Int32), J_X12_fits_27 p1 a_s t0 f_thrown = some o → Z p l e { frames := 3, cells := 0, slots := 0, locals := 85 } s m args below meth c Q 2 0 0 (IW D A s [(q_this, .inr (12, [.ref q_s, .ref q_before, .ref q_saved, .int f_isSaved, .ref q_past, .int f_pastMany, .int f_thrown, .int f_reason, .int f_detail, .int f_isRefused, .ref q_steps, .ref q_goes, .int f_goesMany, .int f_roundSteps, .ref q_line, .int f_lineMany, .ref q_text, .int f_length, .int f_at, .int f_isWrong, .int f_errorAt, .ref q_orders, .int f_orderMany])), (q_s, .inl (g 0, 147, .inl a_s))]) 27 [(0, .ref q_this), (1, .int p1)] [.int t0, .ref q_this] := by
    intro t0 f_thrown h
    refine z_put (q0 := 0) (k := 6) (ci := 12) (ws' := [(q_this, .inr (12, [.ref q_s, .ref q_before, .ref q_saved, .int f_isSaved, .ref q_past, .int f_pastMany, .int t0, .int f_reason, .int f_detail, .int f_isRefused, .ref q_steps, .ref q_goes, .int f_goesMany, .int f_roundSteps, .ref q_line, .int f_lineMany, .ref q_text, .int f_length, .int f_at, .int f_isWrong, .int f_errorAt, .ref q_orders, .int f_orderMany])), (q_s, .inl (g 0, 147, .inl a_s))]) X iw_X12 tyX12_ok nmX12 rfl qf_X12_X12_thrown (by decide) rfl rfl dX12_fits_27 rfl rfl rfl (Nat.le_of_ble_eq_true rfl) rfl ?_
    refine z_aload_n X 0 dX12_fits_30 rfl rfl ?_
    refine z_get (q0 := 0) (k := 6) (ci := 12) X IW_P iw_X12 rfl qf_X12_X12_thrown (by decide) dX12_fits_31 rfl rfl ?_
    refine z_if_ne X 49 dX12_fits_34 (by decide) h (fun _ h => ?_) (fun _ h => ?_)
    · refine z_aload_n X 0 dX12_fits_37 rfl rfl ?_
      refine z_iload_n X 1 dX12_fits_38 rfl rfl ?_
      obtain ⟨o3, e4, h⟩ := bnd_p h
      refine z_rdV (rest := []) (q0 := 0) (ci := 12) X IW_P k_X12_canBe (c_X12_canBe l D g q_this q_s q_before q_saved q_past q_steps q_goes q_line q_text q_orders p1 f_isSaved f_pastMany t0 f_reason f_detail f_isRefused f_goesMany f_roundSteps f_lineMany f_length f_at f_isWrong f_errorAt f_orderMany a_s o3 e4) ql_X12_X12_canBe dX12_fits_39 [0, 1] rfl rfl rfl rfl rfl rfl ⟨Nat.le_of_ble_eq_true rfl, Nat.le_of_ble_eq_true rfl, rfl, rfl, Nat.le_of_ble_eq_true rfl, Nat.le_of_ble_eq_true rfl⟩ (Nat.le_of_ble_eq_true rfl) ?_
      refine z_if_eq X 49 dX12_fits_42 (by decide) h (fun _ h => ?_) (fun _ h => ?_)
      · refine z_iconst X (0 : Int32) dX12_fits_49 (by decide) ?_
        cases h
        exact z_zretW X hQ hA hr dX12_fits_50 rfl
      · refine z_iconst X (1 : Int32) dX12_fits_45 (by decide) ?_
        refine z_goto X 50 dX12_fits_46 (by decide) ?_
        cases h
        exact z_zretW X hQ hA hr dX12_fits_50 rfl
    · refine z_iconst X (0 : Int32) dX12_fits_49 (by decide) ?_
      cases h
      exact z_zretW X hQ hA hr dX12_fits_50 rfl
  refine z_aload_n X 0 dX12_fits_0 rfl rfl ?_
  refine z_iload_n X 1 dX12_fits_1 rfl rfl ?_
  obtain ⟨o1, e2, h⟩ := bnd_p h
  refine z_rdS (rest := [.ref q_this]) X IW_P k_X12_isCell (c_X12_isCell l D g p1 o1 e2) ql_X12_X12_isCell dX12_fits_2 [] rfl rfl rfl ⟨Nat.le_of_ble_eq_true rfl, Nat.le_of_ble_eq_true rfl, rfl, rfl, Nat.le_of_ble_eq_true rfl, Nat.le_of_ble_eq_true rfl⟩ (Nat.le_of_ble_eq_true rfl) ?_
  refine z_if_ne X 12 dX12_fits_5 (by decide) h (fun _ h => ?_) (fun _ h => ?_)
  · refine z_iconst X (1 : Int32) dX12_fits_8 (by decide) ?_
    refine z_goto X 27 dX12_fits_9 (by decide) ?_
    exact H27 (1 : Int32) f_thrown h
  · refine z_aload_n X 0 dX12_fits_12 rfl rfl ?_
    refine z_get (q0 := 0) (k := 0) (ci := 12) X IW_P iw_X12 rfl qf_X12_X12_s (by decide) dX12_fits_13 rfl rfl ?_
    refine z_bipush X (8 : Int32) dX12_fits_16 (by decide) ?_
    refine z_iald (q0 := 1) X IW_P dX12_fits_18 rfl h (fun h => ?_)
    refine z_if_ne X 26 dX12_fits_19 (by decide) h (fun _ h => ?_) (fun _ h => ?_)
    · refine z_iconst X (2 : Int32) dX12_fits_22 (by decide) ?_
      refine z_goto X 27 dX12_fits_23 (by decide) ?_
      exact H27 (2 : Int32) f_thrown h
    · refine z_iconst X (0 : Int32) dX12_fits_26 (by decide) ?_
      exact H27 (0 : Int32) f_thrown h

def J_X12_fitting_16 (p1 : Int32) (a_s : Nat → Int32) (t0 : Int32) (f_thrown : Int32) : Option (Int32 × Int32) :=
  brn (t0 ≤ 0) (bnd (F_X12_canBeMany a_s) (fun o1 => some (o1, t0))) (some ((0 : Int32), t0))

def F_X12_fitting (p1 : Int32) (a_s : Nat → Int32) (f_thrown : Int32) : Option (Int32 × Int32) :=
  grd (inb (8 : Int32) 147) (brn ((a_s (8 : Int32).toNatClampNeg) = 0) (J_X12_fitting_16 p1 a_s (1 : Int32) f_thrown) (J_X12_fitting_16 p1 a_s (0 : Int32) f_thrown))
theorem dX12_fitting_0 : decode cX12_fitting 0 = .ok (.aload_n 0, 1) := by decide +kernel
theorem dX12_fitting_1 : decode cX12_fitting 1 = .ok (.aload_n 0, 1) := by decide +kernel
theorem dX12_fitting_2 : decode cX12_fitting 2 = .ok (.getfield 9, 3) := by decide +kernel
theorem dX12_fitting_5 : decode cX12_fitting 5 = .ok (.bipush 8, 2) := by decide +kernel
theorem dX12_fitting_7 : decode cX12_fitting 7 = .ok (.iaload, 1) := by decide +kernel
theorem dX12_fitting_8 : decode cX12_fitting 8 = .ok (.ifCond .ne 7, 3) := by decide +kernel
theorem dX12_fitting_11 : decode cX12_fitting 11 = .ok (.iconst 1, 1) := by decide +kernel
theorem dX12_fitting_12 : decode cX12_fitting 12 = .ok (.goto 4, 3) := by decide +kernel
theorem dX12_fitting_15 : decode cX12_fitting 15 = .ok (.iconst 0, 1) := by decide +kernel
theorem dX12_fitting_16 : decode cX12_fitting 16 = .ok (.putfield 42, 3) := by decide +kernel
theorem dX12_fitting_19 : decode cX12_fitting 19 = .ok (.aload_n 0, 1) := by decide +kernel
theorem dX12_fitting_20 : decode cX12_fitting 20 = .ok (.getfield 42, 3) := by decide +kernel
theorem dX12_fitting_23 : decode cX12_fitting 23 = .ok (.ifCond .le 7, 3) := by decide +kernel
theorem dX12_fitting_26 : decode cX12_fitting 26 = .ok (.iconst 0, 1) := by decide +kernel
theorem dX12_fitting_27 : decode cX12_fitting 27 = .ok (.goto 7, 3) := by decide +kernel
theorem dX12_fitting_30 : decode cX12_fitting 30 = .ok (.aload_n 0, 1) := by decide +kernel
theorem dX12_fitting_31 : decode cX12_fitting 31 = .ok (.invokevirtual 185, 3) := by decide +kernel
theorem dX12_fitting_34 : decode cX12_fitting 34 = .ok (.ireturn, 1) := by decide +kernel
theorem k_X12_fitting : cardV yX12_fitting (Cond.code yX12_fitting cX12_fitting 2 (some .int)) 1 := ⟨⟨qi_X12_fitting, qv_X12_fitting⟩, qc_X12_fitting, qn_X12, by decide +kernel, by decide +kernel, by decide +kernel⟩
set_option maxHeartbeats 4000000 in
set_option maxRecDepth 100000 in
theorem c_X12_fitting (l : Launch) (D : va_G) (g : Nat → ClassId) (q_this q_s q_before q_saved q_past q_steps q_goes q_line q_text q_orders : Nat) (p1 : Int32) (f_isSaved : Int32) (f_pastMany : Int32) (f_thrown : Int32) (f_reason : Int32) (f_detail : Int32) (f_isRefused : Int32) (f_goesMany : Int32) (f_roundSteps : Int32) (f_lineMany : Int32) (f_length : Int32) (f_at : Int32) (f_isWrong : Int32) (f_errorAt : Int32) (f_orderMany : Int32) (a_s : Nat → Int32) (o : Int32 × Int32) (h : F_X12_fitting p1 a_s f_thrown = some o) : MW l yX12_fitting (Cond.code yX12_fitting cX12_fitting 2 (some .int)) { frames := 4, cells := 0, slots := 0, locals := 107 } D g [.ref q_this, .int p1] [(q_this, .inr (12, [.ref q_s, .ref q_before, .ref q_saved, .int f_isSaved, .ref q_past, .int f_pastMany, .int f_thrown, .int f_reason, .int f_detail, .int f_isRefused, .ref q_steps, .ref q_goes, .int f_goesMany, .int f_roundSteps, .ref q_line, .int f_lineMany, .ref q_text, .int f_length, .int f_at, .int f_isWrong, .int f_errorAt, .ref q_orders, .int f_orderMany])), (q_s, .inl (g 0, 147, .inl a_s))] (some (.int o.1)) [(q_this, .inr (12, [.ref q_s, .ref q_before, .ref q_saved, .int f_isSaved, .ref q_past, .int f_pastMany, .int o.2, .int f_reason, .int f_detail, .int f_isRefused, .ref q_steps, .ref q_goes, .int f_goesMany, .int f_roundSteps, .ref q_line, .int f_lineMany, .ref q_text, .int f_length, .int f_at, .int f_isWrong, .int f_errorAt, .ref q_orders, .int f_orderMany])), (q_s, .inl (g 0, 147, .inl a_s))] := by
  refine z_wr_start (by decide) (Nat.le_of_ble_eq_true rfl) ?_
  intro p e s m args below meth c Q A X hr hQ hA
  refine z_lv (lv' := [(0, .ref q_this), (1, .int p1)]) rfl ?_
  have H16 : ∀ (t0 : Int32) (f_thrown : Int32), J_X12_fitting_16 p1 a_s t0 f_thrown = some o → Z p l e { frames := 4, cells := 0, slots := 0, locals := 107 } s m args below meth c Q 2 0 0 (IW D A s [(q_this, .inr (12, [.ref q_s, .ref q_before, .ref q_saved, .int f_isSaved, .ref q_past, .int f_pastMany, .int f_thrown, .int f_reason, .int f_detail, .int f_isRefused, .ref q_steps, .ref q_goes, .int f_goesMany, .int f_roundSteps, .ref q_line, .int f_lineMany, .ref q_text, .int f_length, .int f_at, .int f_isWrong, .int f_errorAt, .ref q_orders, .int f_orderMany])), (q_s, .inl (g 0, 147, .inl a_s))]) 16 [(0, .ref q_this)] [.int t0, .ref q_this] := by
    intro t0 f_thrown h
    refine z_put (q0 := 0) (k := 6) (ci := 12) (ws' := [(q_this, .inr (12, [.ref q_s, .ref q_before, .ref q_saved, .int f_isSaved, .ref q_past, .int f_pastMany, .int t0, .int f_reason, .int f_detail, .int f_isRefused, .ref q_steps, .ref q_goes, .int f_goesMany, .int f_roundSteps, .ref q_line, .int f_lineMany, .ref q_text, .int f_length, .int f_at, .int f_isWrong, .int f_errorAt, .ref q_orders, .int f_orderMany])), (q_s, .inl (g 0, 147, .inl a_s))]) X iw_X12 tyX12_ok nmX12 rfl qf_X12_X12_thrown (by decide) rfl rfl dX12_fitting_16 rfl rfl rfl (Nat.le_of_ble_eq_true rfl) rfl ?_
    refine z_aload_n X 0 dX12_fitting_19 rfl rfl ?_
    refine z_get (q0 := 0) (k := 6) (ci := 12) X IW_P iw_X12 rfl qf_X12_X12_thrown (by decide) dX12_fitting_20 rfl rfl ?_
    refine z_if_le X 30 dX12_fitting_23 (by decide) h (fun _ h => ?_) (fun _ h => ?_)
    · refine z_aload_n X 0 dX12_fitting_30 rfl rfl ?_
      obtain ⟨o1, e2, h⟩ := bnd_p h
      refine z_rdV (rest := []) (q0 := 0) (ci := 12) X IW_P k_X12_canBeMany (c_X12_canBeMany l D g q_this q_s q_before q_saved q_past q_steps q_goes q_line q_text q_orders f_isSaved f_pastMany t0 f_reason f_detail f_isRefused f_goesMany f_roundSteps f_lineMany f_length f_at f_isWrong f_errorAt f_orderMany a_s o1 e2) ql_X12_X12_canBeMany dX12_fitting_31 [0, 1] rfl rfl rfl rfl rfl rfl ⟨Nat.le_of_ble_eq_true rfl, Nat.le_of_ble_eq_true rfl, rfl, rfl, Nat.le_of_ble_eq_true rfl, Nat.le_of_ble_eq_true rfl⟩ (Nat.le_of_ble_eq_true rfl) ?_
      cases h
      exact z_iretW X hQ hA hr dX12_fitting_34
    · refine z_iconst X (0 : Int32) dX12_fitting_26 (by decide) ?_
      refine z_goto X 34 dX12_fitting_27 (by decide) ?_
      cases h
      exact z_iretW X hQ hA hr dX12_fitting_34
  refine z_aload_n X 0 dX12_fitting_0 rfl rfl ?_
  refine z_aload_n X 0 dX12_fitting_1 rfl rfl ?_
  refine z_get (q0 := 0) (k := 0) (ci := 12) X IW_P iw_X12 rfl qf_X12_X12_s (by decide) dX12_fitting_2 rfl rfl ?_
  refine z_bipush X (8 : Int32) dX12_fitting_5 (by decide) ?_
  refine z_iald (q0 := 1) X IW_P dX12_fitting_7 rfl h (fun h => ?_)
  refine z_if_ne X 15 dX12_fitting_8 (by decide) h (fun _ h => ?_) (fun _ h => ?_)
  · refine z_iconst X (1 : Int32) dX12_fitting_11 (by decide) ?_
    refine z_goto X 16 dX12_fitting_12 (by decide) ?_
    refine z_sub (lv' := [(0, .ref q_this)]) [0] rfl ?_
    exact H16 (1 : Int32) f_thrown h
  · refine z_iconst X (0 : Int32) dX12_fitting_15 (by decide) ?_
    refine z_sub (lv' := [(0, .ref q_this)]) [0] rfl ?_
    exact H16 (0 : Int32) f_thrown h

def J_X12_fix_52 (p1 : Int32) (a_s : Nat → Int32) (f_thrown : Int32) : Option (Int32 × Int32) :=
  bnd (F_X12_fails (1 : Int32) f_thrown) (fun o1 => some (o1.1, o1.2))

def L_X12_fix_4 (p1 : Int32) (a_s : Nat → Int32) : Nat → Int32 → Int32 → (Int32) → Option (Int32 × Int32)
  | 0, _, _, _ => none
  | _n + 1, x2, x3, f_thrown =>
    brn ((64 : Int32) ≤ x3) (J_X12_fix_52 p1 a_s f_thrown) (grd (inb (8 : Int32) 147) (brn ((a_s (8 : Int32).toNatClampNeg) ≤ 0) (J_X12_fix_52 p1 a_s f_thrown) (brn (p1 < 0) (J_X12_fix_52 p1 a_s f_thrown) (bnd (F_X12_canBe x3 a_s) (fun o3 => brn (o3 = 0) (L_X12_fix_4 p1 a_s _n x2 (x3 + 1) f_thrown) (brn (x2 = 0) (some (x3, (0 : Int32))) (L_X12_fix_4 p1 a_s _n (x2 + (-1)) (x3 + 1) f_thrown)))))))

def F_X12_fix (p1 : Int32) (a_s : Nat → Int32) (f_thrown : Int32) : Option (Int32 × Int32) :=
  L_X12_fix_4 p1 a_s 100 p1 (0 : Int32) f_thrown
theorem dX12_fix_0 : decode cX12_fix 0 = .ok (.iload_n 1, 1) := by decide +kernel
theorem dX12_fix_1 : decode cX12_fix 1 = .ok (.istore_n 2, 1) := by decide +kernel
theorem dX12_fix_2 : decode cX12_fix 2 = .ok (.iconst 0, 1) := by decide +kernel
theorem dX12_fix_3 : decode cX12_fix 3 = .ok (.istore_n 3, 1) := by decide +kernel
theorem dX12_fix_4 : decode cX12_fix 4 = .ok (.iload_n 3, 1) := by decide +kernel
theorem dX12_fix_5 : decode cX12_fix 5 = .ok (.bipush 64, 2) := by decide +kernel
theorem dX12_fix_7 : decode cX12_fix 7 = .ok (.if_icmp .ge 45, 3) := by decide +kernel
theorem dX12_fix_10 : decode cX12_fix 10 = .ok (.aload_n 0, 1) := by decide +kernel
theorem dX12_fix_11 : decode cX12_fix 11 = .ok (.getfield 9, 3) := by decide +kernel
theorem dX12_fix_14 : decode cX12_fix 14 = .ok (.bipush 8, 2) := by decide +kernel
theorem dX12_fix_16 : decode cX12_fix 16 = .ok (.iaload, 1) := by decide +kernel
theorem dX12_fix_17 : decode cX12_fix 17 = .ok (.ifCond .le 35, 3) := by decide +kernel
theorem dX12_fix_20 : decode cX12_fix 20 = .ok (.iload_n 1, 1) := by decide +kernel
theorem dX12_fix_21 : decode cX12_fix 21 = .ok (.ifCond .lt 31, 3) := by decide +kernel
theorem dX12_fix_24 : decode cX12_fix 24 = .ok (.aload_n 0, 1) := by decide +kernel
theorem dX12_fix_25 : decode cX12_fix 25 = .ok (.iload_n 3, 1) := by decide +kernel
theorem dX12_fix_26 : decode cX12_fix 26 = .ok (.invokevirtual 182, 3) := by decide +kernel
theorem dX12_fix_29 : decode cX12_fix 29 = .ok (.ifCond .eq 17, 3) := by decide +kernel
theorem dX12_fix_32 : decode cX12_fix 32 = .ok (.iload_n 2, 1) := by decide +kernel
theorem dX12_fix_33 : decode cX12_fix 33 = .ok (.ifCond .ne 10, 3) := by decide +kernel
theorem dX12_fix_36 : decode cX12_fix 36 = .ok (.aload_n 0, 1) := by decide +kernel
theorem dX12_fix_37 : decode cX12_fix 37 = .ok (.iconst 0, 1) := by decide +kernel
theorem dX12_fix_38 : decode cX12_fix 38 = .ok (.putfield 42, 3) := by decide +kernel
theorem dX12_fix_41 : decode cX12_fix 41 = .ok (.iload_n 3, 1) := by decide +kernel
theorem dX12_fix_42 : decode cX12_fix 42 = .ok (.ireturn, 1) := by decide +kernel
theorem dX12_fix_43 : decode cX12_fix 43 = .ok (.iinc 2 (-1), 3) := by decide +kernel
theorem dX12_fix_46 : decode cX12_fix 46 = .ok (.iinc 3 1, 3) := by decide +kernel
theorem dX12_fix_49 : decode cX12_fix 49 = .ok (.goto (-45), 3) := by decide +kernel
theorem dX12_fix_52 : decode cX12_fix 52 = .ok (.aload_n 0, 1) := by decide +kernel
theorem dX12_fix_53 : decode cX12_fix 53 = .ok (.iconst 1, 1) := by decide +kernel
theorem dX12_fix_54 : decode cX12_fix 54 = .ok (.invokevirtual 88, 3) := by decide +kernel
theorem dX12_fix_57 : decode cX12_fix 57 = .ok (.ireturn, 1) := by decide +kernel
theorem k_X12_fix : cardV yX12_fix (Cond.code yX12_fix cX12_fix 4 (some .int)) 1 := ⟨⟨qi_X12_fix, qv_X12_fix⟩, qc_X12_fix, qn_X12, by decide +kernel, by decide +kernel, by decide +kernel⟩
set_option maxHeartbeats 4000000 in
set_option maxRecDepth 100000 in
theorem c_X12_fix (l : Launch) (D : va_G) (g : Nat → ClassId) (q_this q_s q_before q_saved q_past q_steps q_goes q_line q_text q_orders : Nat) (p1 : Int32) (f_isSaved : Int32) (f_pastMany : Int32) (f_thrown : Int32) (f_reason : Int32) (f_detail : Int32) (f_isRefused : Int32) (f_goesMany : Int32) (f_roundSteps : Int32) (f_lineMany : Int32) (f_length : Int32) (f_at : Int32) (f_isWrong : Int32) (f_errorAt : Int32) (f_orderMany : Int32) (a_s : Nat → Int32) (o : Int32 × Int32) (h : F_X12_fix p1 a_s f_thrown = some o) : MW l yX12_fix (Cond.code yX12_fix cX12_fix 4 (some .int)) { frames := 3, cells := 0, slots := 0, locals := 85 } D g [.ref q_this, .int p1] [(q_this, .inr (12, [.ref q_s, .ref q_before, .ref q_saved, .int f_isSaved, .ref q_past, .int f_pastMany, .int f_thrown, .int f_reason, .int f_detail, .int f_isRefused, .ref q_steps, .ref q_goes, .int f_goesMany, .int f_roundSteps, .ref q_line, .int f_lineMany, .ref q_text, .int f_length, .int f_at, .int f_isWrong, .int f_errorAt, .ref q_orders, .int f_orderMany])), (q_s, .inl (g 0, 147, .inl a_s))] (some (.int o.1)) [(q_this, .inr (12, [.ref q_s, .ref q_before, .ref q_saved, .int f_isSaved, .ref q_past, .int f_pastMany, .int o.2, .int f_reason, .int f_detail, .int f_isRefused, .ref q_steps, .ref q_goes, .int f_goesMany, .int f_roundSteps, .ref q_line, .int f_lineMany, .ref q_text, .int f_length, .int f_at, .int f_isWrong, .int f_errorAt, .ref q_orders, .int f_orderMany])), (q_s, .inl (g 0, 147, .inl a_s))] := by
  refine z_wr_start (by decide) (Nat.le_of_ble_eq_true rfl) ?_
  intro p e s m args below meth c Q A X hr hQ hA
  refine z_lv (lv' := [(0, .ref q_this), (1, .int p1)]) rfl ?_
  have H52 : ∀ (f_thrown : Int32), J_X12_fix_52 p1 a_s f_thrown = some o → Z p l e { frames := 3, cells := 0, slots := 0, locals := 85 } s m args below meth c Q 4 0 0 (IW D A s [(q_this, .inr (12, [.ref q_s, .ref q_before, .ref q_saved, .int f_isSaved, .ref q_past, .int f_pastMany, .int f_thrown, .int f_reason, .int f_detail, .int f_isRefused, .ref q_steps, .ref q_goes, .int f_goesMany, .int f_roundSteps, .ref q_line, .int f_lineMany, .ref q_text, .int f_length, .int f_at, .int f_isWrong, .int f_errorAt, .ref q_orders, .int f_orderMany])), (q_s, .inl (g 0, 147, .inl a_s))]) 52 [(0, .ref q_this)] [] := by
    intro f_thrown h
    refine z_aload_n X 0 dX12_fix_52 rfl rfl ?_
    refine z_iconst X (1 : Int32) dX12_fix_53 (by decide) ?_
    obtain ⟨o1, e2, h⟩ := bnd_p h
    refine z_wrV (rest := []) (q0 := 0) (ci := 12) (ws' := [(q_this, .inr (12, [.ref q_s, .ref q_before, .ref q_saved, .int f_isSaved, .ref q_past, .int f_pastMany, .int o1.2, .int f_reason, .int f_detail, .int f_isRefused, .ref q_steps, .ref q_goes, .int f_goesMany, .int f_roundSteps, .ref q_line, .int f_lineMany, .ref q_text, .int f_length, .int f_at, .int f_isWrong, .int f_errorAt, .ref q_orders, .int f_orderMany])), (q_s, .inl (g 0, 147, .inl a_s))]) (wr := [(q_s, .inl (g 0, 147, .inl a_s))]) (as := [q_this, q_s]) X k_X12_fails (c_X12_fails l D g q_this q_s q_before q_saved q_past q_steps q_goes q_line q_text q_orders (1 : Int32) f_isSaved f_pastMany f_thrown f_reason f_detail f_isRefused f_goesMany f_roundSteps f_lineMany f_length f_at f_isWrong f_errorAt f_orderMany o1 e2) ql_X12_X12_fails dX12_fix_54 [0] [1] ⟨rfl, rfl, rfl, rfl, rfl, rfl, rfl, rfl⟩ rfl rfl rfl rfl rfl ⟨Nat.le_of_ble_eq_true rfl, Nat.le_of_ble_eq_true rfl, rfl, rfl, Nat.le_of_ble_eq_true rfl, Nat.le_of_ble_eq_true rfl⟩ (Nat.le_of_ble_eq_true rfl) ?_
    cases h
    exact z_iretW X hQ hA hr dX12_fix_57
  have H4 : ∀ (n : Nat) (x2 : Int32) (x3 : Int32) (f_thrown : Int32), L_X12_fix_4 p1 a_s  n x2 x3 f_thrown = some o → Z p l e { frames := 3, cells := 0, slots := 0, locals := 85 } s m args below meth c Q 4 0 0 (IW D A s [(q_this, .inr (12, [.ref q_s, .ref q_before, .ref q_saved, .int f_isSaved, .ref q_past, .int f_pastMany, .int f_thrown, .int f_reason, .int f_detail, .int f_isRefused, .ref q_steps, .ref q_goes, .int f_goesMany, .int f_roundSteps, .ref q_line, .int f_lineMany, .ref q_text, .int f_length, .int f_at, .int f_isWrong, .int f_errorAt, .ref q_orders, .int f_orderMany])), (q_s, .inl (g 0, 147, .inl a_s))]) 4 [(0, .ref q_this), (1, .int p1), (2, .int x2), (3, .int x3)] [] := by
    intro n
    induction n with
    | zero => intro x2 x3 f_thrown h; cases h
    | succ n4 ih4 =>
      intro x2 x3 f_thrown h
      refine z_iload_n X 3 dX12_fix_4 rfl rfl ?_
      refine z_bipush X (64 : Int32) dX12_fix_5 (by decide) ?_
      refine z_icmp_ge X 52 dX12_fix_7 (by decide) h (fun _ h => ?_) (fun _ h => ?_)
      · refine z_sub (lv' := [(0, .ref q_this)]) [0] rfl ?_
        exact H52 f_thrown h
      · refine z_aload_n X 0 dX12_fix_10 rfl rfl ?_
        refine z_get (q0 := 0) (k := 0) (ci := 12) X IW_P iw_X12 rfl qf_X12_X12_s (by decide) dX12_fix_11 rfl rfl ?_
        refine z_bipush X (8 : Int32) dX12_fix_14 (by decide) ?_
        refine z_iald (q0 := 1) X IW_P dX12_fix_16 rfl h (fun h => ?_)
        refine z_if_le X 52 dX12_fix_17 (by decide) h (fun _ h => ?_) (fun _ h => ?_)
        · refine z_sub (lv' := [(0, .ref q_this)]) [0] rfl ?_
          exact H52 f_thrown h
        · refine z_iload_n X 1 dX12_fix_20 rfl rfl ?_
          refine z_if_lt X 52 dX12_fix_21 (by decide) h (fun _ h => ?_) (fun _ h => ?_)
          · refine z_sub (lv' := [(0, .ref q_this)]) [0] rfl ?_
            exact H52 f_thrown h
          · refine z_aload_n X 0 dX12_fix_24 rfl rfl ?_
            refine z_iload_n X 3 dX12_fix_25 rfl rfl ?_
            obtain ⟨o3, e4, h⟩ := bnd_p h
            refine z_rdV (rest := []) (q0 := 0) (ci := 12) X IW_P k_X12_canBe (c_X12_canBe l D g q_this q_s q_before q_saved q_past q_steps q_goes q_line q_text q_orders x3 f_isSaved f_pastMany f_thrown f_reason f_detail f_isRefused f_goesMany f_roundSteps f_lineMany f_length f_at f_isWrong f_errorAt f_orderMany a_s o3 e4) ql_X12_X12_canBe dX12_fix_26 [0, 1] rfl rfl rfl rfl rfl rfl ⟨Nat.le_of_ble_eq_true rfl, Nat.le_of_ble_eq_true rfl, rfl, rfl, Nat.le_of_ble_eq_true rfl, Nat.le_of_ble_eq_true rfl⟩ (Nat.le_of_ble_eq_true rfl) ?_
            refine z_if_eq X 46 dX12_fix_29 (by decide) h (fun _ h => ?_) (fun _ h => ?_)
            · refine z_iinc X 3 [(3, .int (x3 + 1)), (0, .ref q_this), (1, .int p1), (2, .int x2)] dX12_fix_46 rfl rfl (by decide) rfl ?_
              refine z_goto X 4 dX12_fix_49 (by decide) ?_
              refine z_sub (lv' := [(0, .ref q_this), (1, .int p1), (2, .int x2), (3, .int (x3 + 1))]) [1, 2, 3, 0] rfl ?_
              exact ih4 x2 (x3 + 1) f_thrown h
            · refine z_iload_n X 2 dX12_fix_32 rfl rfl ?_
              refine z_if_ne X 43 dX12_fix_33 (by decide) h (fun _ h => ?_) (fun _ h => ?_)
              · refine z_aload_n X 0 dX12_fix_36 rfl rfl ?_
                refine z_iconst X (0 : Int32) dX12_fix_37 (by decide) ?_
                refine z_put (q0 := 0) (k := 6) (ci := 12) (ws' := [(q_this, .inr (12, [.ref q_s, .ref q_before, .ref q_saved, .int f_isSaved, .ref q_past, .int f_pastMany, .int (0 : Int32), .int f_reason, .int f_detail, .int f_isRefused, .ref q_steps, .ref q_goes, .int f_goesMany, .int f_roundSteps, .ref q_line, .int f_lineMany, .ref q_text, .int f_length, .int f_at, .int f_isWrong, .int f_errorAt, .ref q_orders, .int f_orderMany])), (q_s, .inl (g 0, 147, .inl a_s))]) X iw_X12 tyX12_ok nmX12 rfl qf_X12_X12_thrown (by decide) rfl rfl dX12_fix_38 rfl rfl rfl (Nat.le_of_ble_eq_true rfl) rfl ?_
                refine z_iload_n X 3 dX12_fix_41 rfl rfl ?_
                cases h
                exact z_iretW X hQ hA hr dX12_fix_42
              · refine z_iinc X 2 [(2, .int (x2 + (-1))), (0, .ref q_this), (1, .int p1), (3, .int x3)] dX12_fix_43 rfl rfl (by decide) rfl ?_
                refine z_iinc X 3 [(3, .int (x3 + 1)), (2, .int (x2 + (-1))), (0, .ref q_this), (1, .int p1)] dX12_fix_46 rfl rfl (by decide) rfl ?_
                refine z_goto X 4 dX12_fix_49 (by decide) ?_
                refine z_sub (lv' := [(0, .ref q_this), (1, .int p1), (2, .int (x2 + (-1))), (3, .int (x3 + 1))]) [2, 3, 1, 0] rfl ?_
                exact ih4 (x2 + (-1)) (x3 + 1) f_thrown h
  refine z_iload_n X 1 dX12_fix_0 rfl rfl ?_
  refine z_istore_n X [(2, .int p1), (0, .ref q_this), (1, .int p1)] dX12_fix_1 rfl (by decide) rfl ?_
  refine z_iconst X (0 : Int32) dX12_fix_2 (by decide) ?_
  refine z_istore_n X [(3, .int (0 : Int32)), (2, .int p1), (0, .ref q_this), (1, .int p1)] dX12_fix_3 rfl (by decide) rfl ?_
  refine z_sub (lv' := [(0, .ref q_this), (1, .int p1), (2, .int p1), (3, .int (0 : Int32))]) [2, 3, 1, 0] rfl ?_
  exact H4 100 p1 (0 : Int32) f_thrown h

def J_X12_tellsWays_131 (p1 : Int32) (a_s : Nat → Int32) (r34 : Int32 → (Nat → Int32) → Option ((Nat → Int32))) (r42 : Int32 → Int32 → (Nat → Int32) → Option ((Nat → Int32))) (r51 : Int32 → Int32 → Int32 → (Nat → Int32) → Option ((Nat → Int32))) (t0 : Int32) (t1 : Int32) (x2 : Int32) (x3 : Int32) (x4 : Int32) (a_steps : Nat → Int32) : Option ((Nat → Int32)) :=
  grd (inb t1 64) (r51 x2 x3 (x4 + 1) (upd a_steps t1.toNatClampNeg t0))

def J_X12_tellsWays_105 (p1 : Int32) (a_s : Nat → Int32) (r34 : Int32 → (Nat → Int32) → Option ((Nat → Int32))) (r42 : Int32 → Int32 → (Nat → Int32) → Option ((Nat → Int32))) (r51 : Int32 → Int32 → Int32 → (Nat → Int32) → Option ((Nat → Int32))) (t0 : Int32) (x2 : Int32) (x3 : Int32) (x4 : Int32) (a_steps : Nat → Int32) : Option ((Nat → Int32)) :=
  brn (t0 = 0) (grd (inb x4 64) (J_X12_tellsWays_131 p1 a_s (r34) (r42) (r51) (a_steps x4.toNatClampNeg) x4 x2 x3 x4 a_steps)) (J_X12_tellsWays_131 p1 a_s (r34) (r42) (r51) (x2 + (1 : Int32)) x4 x2 x3 x4 a_steps)

def J_X12_tellsWays_104 (p1 : Int32) (a_s : Nat → Int32) (r34 : Int32 → (Nat → Int32) → Option ((Nat → Int32))) (r42 : Int32 → Int32 → (Nat → Int32) → Option ((Nat → Int32))) (r51 : Int32 → Int32 → Int32 → (Nat → Int32) → Option ((Nat → Int32))) (x2 : Int32) (x3 : Int32) (x4 : Int32) (a_steps : Nat → Int32) : Option ((Nat → Int32)) :=
  J_X12_tellsWays_105 p1 a_s (r34) (r42) (r51) (0 : Int32) x2 x3 x4 a_steps

def L_X12_tellsWays_51 (p1 : Int32) (a_s : Nat → Int32) (r34 : Int32 → (Nat → Int32) → Option ((Nat → Int32))) (r42 : Int32 → Int32 → (Nat → Int32) → Option ((Nat → Int32))) : Nat → Int32 → Int32 → Int32 → (Nat → Int32) → Option ((Nat → Int32))
  | 0, _, _, _, _ => none
  | _n + 1, x2, x3, x4, a_steps =>
    brn ((64 : Int32) ≤ x4) (r42 x2 (x3 + 1) a_steps) (grd (inb x3 64) (brn ((a_steps x3.toNatClampNeg) = x2) (bnd (F_X12_far x3 x4) (fun o1 => brn (o1 = (1 : Int32)) (bnd (F_X12_isBlocked x4 a_s) (fun o3 => brn (o3 = 0) (grd (inb x4 64) (brn ((a_steps x4.toNatClampNeg) = (1000 : Int32)) (J_X12_tellsWays_105 p1 a_s (r34) (r42) (L_X12_tellsWays_51 p1 a_s r34 r42 _n) (1 : Int32) x2 x3 x4 a_steps) (J_X12_tellsWays_104 p1 a_s (r34) (r42) (L_X12_tellsWays_51 p1 a_s r34 r42 _n) x2 x3 x4 a_steps))) (J_X12_tellsWays_104 p1 a_s (r34) (r42) (L_X12_tellsWays_51 p1 a_s r34 r42 _n) x2 x3 x4 a_steps))) (J_X12_tellsWays_104 p1 a_s (r34) (r42) (L_X12_tellsWays_51 p1 a_s r34 r42 _n) x2 x3 x4 a_steps))) (r42 x2 (x3 + 1) a_steps)))

def L_X12_tellsWays_42 (p1 : Int32) (a_s : Nat → Int32) (r34 : Int32 → (Nat → Int32) → Option ((Nat → Int32))) : Nat → Int32 → Int32 → (Nat → Int32) → Option ((Nat → Int32))
  | 0, _, _, _ => none
  | _n + 1, x2, x3, a_steps =>
    brn ((64 : Int32) ≤ x3) (r34 (x2 + 1) a_steps) (L_X12_tellsWays_51 p1 a_s (r34) (L_X12_tellsWays_42 p1 a_s r34 _n) 100 x2 x3 (0 : Int32) a_steps)

def L_X12_tellsWays_34 (p1 : Int32) (a_s : Nat → Int32) : Nat → Int32 → (Nat → Int32) → Option ((Nat → Int32))
  | 0, _, _ => none
  | _n + 1, x2, a_steps =>
    brn ((64 : Int32) ≤ x2) (some (a_steps)) (L_X12_tellsWays_42 p1 a_s (L_X12_tellsWays_34 p1 a_s _n) 100 x2 (0 : Int32) a_steps)

def J_X12_tellsWays_25 (p1 : Int32) (a_s : Nat → Int32) (r2 : Int32 → (Nat → Int32) → Option ((Nat → Int32))) (t0 : Int32) (t1 : Int32) (x2 : Int32) (a_steps : Nat → Int32) : Option ((Nat → Int32)) :=
  grd (inb t1 64) (r2 (x2 + 1) (upd a_steps t1.toNatClampNeg t0))

def L_X12_tellsWays_2 (p1 : Int32) (a_s : Nat → Int32) : Nat → Int32 → (Nat → Int32) → Option ((Nat → Int32))
  | 0, _, _ => none
  | _n + 1, x2, a_steps =>
    brn ((64 : Int32) ≤ x2) (L_X12_tellsWays_34 p1 a_s 100 (0 : Int32) a_steps) (brn (x2 = p1) (J_X12_tellsWays_25 p1 a_s (L_X12_tellsWays_2 p1 a_s _n) (0 : Int32) x2 x2 a_steps) (J_X12_tellsWays_25 p1 a_s (L_X12_tellsWays_2 p1 a_s _n) (1000 : Int32) x2 x2 a_steps))

def F_X12_tellsWays (p1 : Int32) (a_s : Nat → Int32) (a_steps : Nat → Int32) : Option ((Nat → Int32)) :=
  L_X12_tellsWays_2 p1 a_s 100 (0 : Int32) a_steps
theorem dX12_tellsWays_0 : decode cX12_tellsWays 0 = .ok (.iconst 0, 1) := by decide +kernel
theorem dX12_tellsWays_1 : decode cX12_tellsWays 1 = .ok (.istore_n 2, 1) := by decide +kernel
theorem dX12_tellsWays_2 : decode cX12_tellsWays 2 = .ok (.iload_n 2, 1) := by decide +kernel
theorem dX12_tellsWays_3 : decode cX12_tellsWays 3 = .ok (.bipush 64, 2) := by decide +kernel
theorem dX12_tellsWays_5 : decode cX12_tellsWays 5 = .ok (.if_icmp .ge 27, 3) := by decide +kernel
theorem dX12_tellsWays_8 : decode cX12_tellsWays 8 = .ok (.aload_n 0, 1) := by decide +kernel
theorem dX12_tellsWays_9 : decode cX12_tellsWays 9 = .ok (.getfield 22, 3) := by decide +kernel
theorem dX12_tellsWays_12 : decode cX12_tellsWays 12 = .ok (.iload_n 2, 1) := by decide +kernel
theorem dX12_tellsWays_13 : decode cX12_tellsWays 13 = .ok (.iload_n 2, 1) := by decide +kernel
theorem dX12_tellsWays_14 : decode cX12_tellsWays 14 = .ok (.iload_n 1, 1) := by decide +kernel
theorem dX12_tellsWays_15 : decode cX12_tellsWays 15 = .ok (.if_icmp .ne 7, 3) := by decide +kernel
theorem dX12_tellsWays_18 : decode cX12_tellsWays 18 = .ok (.iconst 0, 1) := by decide +kernel
theorem dX12_tellsWays_19 : decode cX12_tellsWays 19 = .ok (.goto 6, 3) := by decide +kernel
theorem dX12_tellsWays_22 : decode cX12_tellsWays 22 = .ok (.sipush 1000, 3) := by decide +kernel
theorem dX12_tellsWays_25 : decode cX12_tellsWays 25 = .ok (.iastore, 1) := by decide +kernel
theorem dX12_tellsWays_26 : decode cX12_tellsWays 26 = .ok (.iinc 2 1, 3) := by decide +kernel
theorem dX12_tellsWays_29 : decode cX12_tellsWays 29 = .ok (.goto (-27), 3) := by decide +kernel
theorem dX12_tellsWays_32 : decode cX12_tellsWays 32 = .ok (.iconst 0, 1) := by decide +kernel
theorem dX12_tellsWays_33 : decode cX12_tellsWays 33 = .ok (.istore_n 2, 1) := by decide +kernel
theorem dX12_tellsWays_34 : decode cX12_tellsWays 34 = .ok (.iload_n 2, 1) := by decide +kernel
theorem dX12_tellsWays_35 : decode cX12_tellsWays 35 = .ok (.bipush 64, 2) := by decide +kernel
theorem dX12_tellsWays_37 : decode cX12_tellsWays 37 = .ok (.if_icmp .ge 113, 3) := by decide +kernel
theorem dX12_tellsWays_40 : decode cX12_tellsWays 40 = .ok (.iconst 0, 1) := by decide +kernel
theorem dX12_tellsWays_41 : decode cX12_tellsWays 41 = .ok (.istore_n 3, 1) := by decide +kernel
theorem dX12_tellsWays_42 : decode cX12_tellsWays 42 = .ok (.iload_n 3, 1) := by decide +kernel
theorem dX12_tellsWays_43 : decode cX12_tellsWays 43 = .ok (.bipush 64, 2) := by decide +kernel
theorem dX12_tellsWays_45 : decode cX12_tellsWays 45 = .ok (.if_icmp .ge 99, 3) := by decide +kernel
theorem dX12_tellsWays_48 : decode cX12_tellsWays 48 = .ok (.iconst 0, 1) := by decide +kernel
theorem dX12_tellsWays_49 : decode cX12_tellsWays 49 = .ok (.istore 4, 2) := by decide +kernel
theorem dX12_tellsWays_51 : decode cX12_tellsWays 51 = .ok (.iload 4, 2) := by decide +kernel
theorem dX12_tellsWays_53 : decode cX12_tellsWays 53 = .ok (.bipush 64, 2) := by decide +kernel
theorem dX12_tellsWays_55 : decode cX12_tellsWays 55 = .ok (.if_icmp .ge 83, 3) := by decide +kernel
theorem dX12_tellsWays_58 : decode cX12_tellsWays 58 = .ok (.aload_n 0, 1) := by decide +kernel
theorem dX12_tellsWays_59 : decode cX12_tellsWays 59 = .ok (.getfield 22, 3) := by decide +kernel
theorem dX12_tellsWays_62 : decode cX12_tellsWays 62 = .ok (.iload_n 3, 1) := by decide +kernel
theorem dX12_tellsWays_63 : decode cX12_tellsWays 63 = .ok (.iaload, 1) := by decide +kernel
theorem dX12_tellsWays_64 : decode cX12_tellsWays 64 = .ok (.iload_n 2, 1) := by decide +kernel
theorem dX12_tellsWays_65 : decode cX12_tellsWays 65 = .ok (.if_icmp .ne 73, 3) := by decide +kernel
theorem dX12_tellsWays_68 : decode cX12_tellsWays 68 = .ok (.iload_n 3, 1) := by decide +kernel
theorem dX12_tellsWays_69 : decode cX12_tellsWays 69 = .ok (.iload 4, 2) := by decide +kernel
theorem dX12_tellsWays_71 : decode cX12_tellsWays 71 = .ok (.invokestatic 145, 3) := by decide +kernel
theorem dX12_tellsWays_74 : decode cX12_tellsWays 74 = .ok (.iconst 1, 1) := by decide +kernel
theorem dX12_tellsWays_75 : decode cX12_tellsWays 75 = .ok (.if_icmp .ne 29, 3) := by decide +kernel
theorem dX12_tellsWays_78 : decode cX12_tellsWays 78 = .ok (.aload_n 0, 1) := by decide +kernel
theorem dX12_tellsWays_79 : decode cX12_tellsWays 79 = .ok (.iload 4, 2) := by decide +kernel
theorem dX12_tellsWays_81 : decode cX12_tellsWays 81 = .ok (.invokevirtual 91, 3) := by decide +kernel
theorem dX12_tellsWays_84 : decode cX12_tellsWays 84 = .ok (.ifCond .ne 20, 3) := by decide +kernel
theorem dX12_tellsWays_87 : decode cX12_tellsWays 87 = .ok (.aload_n 0, 1) := by decide +kernel
theorem dX12_tellsWays_88 : decode cX12_tellsWays 88 = .ok (.getfield 22, 3) := by decide +kernel
theorem dX12_tellsWays_91 : decode cX12_tellsWays 91 = .ok (.iload 4, 2) := by decide +kernel
theorem dX12_tellsWays_93 : decode cX12_tellsWays 93 = .ok (.iaload, 1) := by decide +kernel
theorem dX12_tellsWays_94 : decode cX12_tellsWays 94 = .ok (.sipush 1000, 3) := by decide +kernel
theorem dX12_tellsWays_97 : decode cX12_tellsWays 97 = .ok (.if_icmp .ne 7, 3) := by decide +kernel
theorem dX12_tellsWays_100 : decode cX12_tellsWays 100 = .ok (.iconst 1, 1) := by decide +kernel
theorem dX12_tellsWays_101 : decode cX12_tellsWays 101 = .ok (.goto 4, 3) := by decide +kernel
theorem dX12_tellsWays_104 : decode cX12_tellsWays 104 = .ok (.iconst 0, 1) := by decide +kernel
theorem dX12_tellsWays_105 : decode cX12_tellsWays 105 = .ok (.istore 5, 2) := by decide +kernel
theorem dX12_tellsWays_107 : decode cX12_tellsWays 107 = .ok (.aload_n 0, 1) := by decide +kernel
theorem dX12_tellsWays_108 : decode cX12_tellsWays 108 = .ok (.getfield 22, 3) := by decide +kernel
theorem dX12_tellsWays_111 : decode cX12_tellsWays 111 = .ok (.iload 4, 2) := by decide +kernel
theorem dX12_tellsWays_113 : decode cX12_tellsWays 113 = .ok (.iload 5, 2) := by decide +kernel
theorem dX12_tellsWays_115 : decode cX12_tellsWays 115 = .ok (.ifCond .eq 9, 3) := by decide +kernel
theorem dX12_tellsWays_118 : decode cX12_tellsWays 118 = .ok (.iload_n 2, 1) := by decide +kernel
theorem dX12_tellsWays_119 : decode cX12_tellsWays 119 = .ok (.iconst 1, 1) := by decide +kernel
theorem dX12_tellsWays_120 : decode cX12_tellsWays 120 = .ok (.iadd, 1) := by decide +kernel
theorem dX12_tellsWays_121 : decode cX12_tellsWays 121 = .ok (.goto 10, 3) := by decide +kernel
theorem dX12_tellsWays_124 : decode cX12_tellsWays 124 = .ok (.aload_n 0, 1) := by decide +kernel
theorem dX12_tellsWays_125 : decode cX12_tellsWays 125 = .ok (.getfield 22, 3) := by decide +kernel
theorem dX12_tellsWays_128 : decode cX12_tellsWays 128 = .ok (.iload 4, 2) := by decide +kernel
theorem dX12_tellsWays_130 : decode cX12_tellsWays 130 = .ok (.iaload, 1) := by decide +kernel
theorem dX12_tellsWays_131 : decode cX12_tellsWays 131 = .ok (.iastore, 1) := by decide +kernel
theorem dX12_tellsWays_132 : decode cX12_tellsWays 132 = .ok (.iinc 4 1, 3) := by decide +kernel
theorem dX12_tellsWays_135 : decode cX12_tellsWays 135 = .ok (.goto (-84), 3) := by decide +kernel
theorem dX12_tellsWays_138 : decode cX12_tellsWays 138 = .ok (.iinc 3 1, 3) := by decide +kernel
theorem dX12_tellsWays_141 : decode cX12_tellsWays 141 = .ok (.goto (-99), 3) := by decide +kernel
theorem dX12_tellsWays_144 : decode cX12_tellsWays 144 = .ok (.iinc 2 1, 3) := by decide +kernel
theorem dX12_tellsWays_147 : decode cX12_tellsWays 147 = .ok (.goto (-113), 3) := by decide +kernel
theorem dX12_tellsWays_150 : decode cX12_tellsWays 150 = .ok (.return_, 1) := by decide +kernel
theorem k_X12_tellsWays : cardV yX12_tellsWays (Cond.code yX12_tellsWays cX12_tellsWays 6 none) 1 := ⟨⟨qi_X12_tellsWays, qv_X12_tellsWays⟩, qc_X12_tellsWays, qn_X12, by decide +kernel, by decide +kernel, by decide +kernel⟩
set_option maxHeartbeats 4000000 in
set_option maxRecDepth 100000 in
theorem c_X12_tellsWays (l : Launch) (D : va_G) (g : Nat → ClassId) (q_this q_s q_before q_saved q_past q_steps q_goes q_line q_text q_orders : Nat) (p1 : Int32) (f_isSaved : Int32) (f_pastMany : Int32) (f_thrown : Int32) (f_reason : Int32) (f_detail : Int32) (f_isRefused : Int32) (f_goesMany : Int32) (f_roundSteps : Int32) (f_lineMany : Int32) (f_length : Int32) (f_at : Int32) (f_isWrong : Int32) (f_errorAt : Int32) (f_orderMany : Int32) (a_s : Nat → Int32) (a_steps : Nat → Int32) (o : (Nat → Int32)) (h : F_X12_tellsWays p1 a_s a_steps = some o) : MW l yX12_tellsWays (Cond.code yX12_tellsWays cX12_tellsWays 6 none) { frames := 2, cells := 0, slots := 0, locals := 61 } D g [.ref q_this, .int p1] [(q_this, .inr (12, [.ref q_s, .ref q_before, .ref q_saved, .int f_isSaved, .ref q_past, .int f_pastMany, .int f_thrown, .int f_reason, .int f_detail, .int f_isRefused, .ref q_steps, .ref q_goes, .int f_goesMany, .int f_roundSteps, .ref q_line, .int f_lineMany, .ref q_text, .int f_length, .int f_at, .int f_isWrong, .int f_errorAt, .ref q_orders, .int f_orderMany])), (q_s, .inl (g 0, 147, .inl a_s)), (q_steps, .inl (g 0, 64, .inl a_steps))] none [(q_this, .inr (12, [.ref q_s, .ref q_before, .ref q_saved, .int f_isSaved, .ref q_past, .int f_pastMany, .int f_thrown, .int f_reason, .int f_detail, .int f_isRefused, .ref q_steps, .ref q_goes, .int f_goesMany, .int f_roundSteps, .ref q_line, .int f_lineMany, .ref q_text, .int f_length, .int f_at, .int f_isWrong, .int f_errorAt, .ref q_orders, .int f_orderMany])), (q_s, .inl (g 0, 147, .inl a_s)), (q_steps, .inl (g 0, 64, .inl o))] := by
  refine z_wr_start (by decide) (Nat.le_of_ble_eq_true rfl) ?_
  intro p e s m args below meth c Q A X hr hQ hA
  refine z_lv (lv' := [(0, .ref q_this), (1, .int p1)]) rfl ?_
  have H34 : ∀ (n : Nat) (x2 : Int32) (a_steps : Nat → Int32), L_X12_tellsWays_34 p1 a_s  n x2 a_steps = some o → Z p l e { frames := 2, cells := 0, slots := 0, locals := 61 } s m args below meth c Q 6 0 0 (IW D A s [(q_this, .inr (12, [.ref q_s, .ref q_before, .ref q_saved, .int f_isSaved, .ref q_past, .int f_pastMany, .int f_thrown, .int f_reason, .int f_detail, .int f_isRefused, .ref q_steps, .ref q_goes, .int f_goesMany, .int f_roundSteps, .ref q_line, .int f_lineMany, .ref q_text, .int f_length, .int f_at, .int f_isWrong, .int f_errorAt, .ref q_orders, .int f_orderMany])), (q_s, .inl (g 0, 147, .inl a_s)), (q_steps, .inl (g 0, 64, .inl a_steps))]) 34 [(0, .ref q_this), (2, .int x2)] [] := by
    intro n
    induction n with
    | zero => intro x2 a_steps h; cases h
    | succ n34 ih34 =>
      intro x2 a_steps h
      have H42 : ∀ (n : Nat) (x2 : Int32) (x3 : Int32) (a_steps : Nat → Int32), L_X12_tellsWays_42 p1 a_s (L_X12_tellsWays_34 p1 a_s n34) n x2 x3 a_steps = some o → Z p l e { frames := 2, cells := 0, slots := 0, locals := 61 } s m args below meth c Q 6 0 0 (IW D A s [(q_this, .inr (12, [.ref q_s, .ref q_before, .ref q_saved, .int f_isSaved, .ref q_past, .int f_pastMany, .int f_thrown, .int f_reason, .int f_detail, .int f_isRefused, .ref q_steps, .ref q_goes, .int f_goesMany, .int f_roundSteps, .ref q_line, .int f_lineMany, .ref q_text, .int f_length, .int f_at, .int f_isWrong, .int f_errorAt, .ref q_orders, .int f_orderMany])), (q_s, .inl (g 0, 147, .inl a_s)), (q_steps, .inl (g 0, 64, .inl a_steps))]) 42 [(0, .ref q_this), (2, .int x2), (3, .int x3)] [] := by
        intro n
        induction n with
        | zero => intro x2 x3 a_steps h; cases h
        | succ n42 ih42 =>
          intro x2 x3 a_steps h
          have H51 : ∀ (n : Nat) (x2 : Int32) (x3 : Int32) (x4 : Int32) (a_steps : Nat → Int32), L_X12_tellsWays_51 p1 a_s (L_X12_tellsWays_34 p1 a_s n34) (L_X12_tellsWays_42 p1 a_s (L_X12_tellsWays_34 p1 a_s n34) n42) n x2 x3 x4 a_steps = some o → Z p l e { frames := 2, cells := 0, slots := 0, locals := 61 } s m args below meth c Q 6 0 0 (IW D A s [(q_this, .inr (12, [.ref q_s, .ref q_before, .ref q_saved, .int f_isSaved, .ref q_past, .int f_pastMany, .int f_thrown, .int f_reason, .int f_detail, .int f_isRefused, .ref q_steps, .ref q_goes, .int f_goesMany, .int f_roundSteps, .ref q_line, .int f_lineMany, .ref q_text, .int f_length, .int f_at, .int f_isWrong, .int f_errorAt, .ref q_orders, .int f_orderMany])), (q_s, .inl (g 0, 147, .inl a_s)), (q_steps, .inl (g 0, 64, .inl a_steps))]) 51 [(0, .ref q_this), (2, .int x2), (3, .int x3), (4, .int x4)] [] := by
            intro n
            induction n with
            | zero => intro x2 x3 x4 a_steps h; cases h
            | succ n51 ih51 =>
              intro x2 x3 x4 a_steps h
              have H131 : ∀ (t0 : Int32) (t1 : Int32) (x2 : Int32) (x3 : Int32) (x4 : Int32) (a_steps : Nat → Int32), J_X12_tellsWays_131 p1 a_s (L_X12_tellsWays_34 p1 a_s n34) (L_X12_tellsWays_42 p1 a_s (L_X12_tellsWays_34 p1 a_s n34) n42) (L_X12_tellsWays_51 p1 a_s (L_X12_tellsWays_34 p1 a_s n34) (L_X12_tellsWays_42 p1 a_s (L_X12_tellsWays_34 p1 a_s n34) n42) n51) t0 t1 x2 x3 x4 a_steps = some o → Z p l e { frames := 2, cells := 0, slots := 0, locals := 61 } s m args below meth c Q 6 0 0 (IW D A s [(q_this, .inr (12, [.ref q_s, .ref q_before, .ref q_saved, .int f_isSaved, .ref q_past, .int f_pastMany, .int f_thrown, .int f_reason, .int f_detail, .int f_isRefused, .ref q_steps, .ref q_goes, .int f_goesMany, .int f_roundSteps, .ref q_line, .int f_lineMany, .ref q_text, .int f_length, .int f_at, .int f_isWrong, .int f_errorAt, .ref q_orders, .int f_orderMany])), (q_s, .inl (g 0, 147, .inl a_s)), (q_steps, .inl (g 0, 64, .inl a_steps))]) 131 [(0, .ref q_this), (2, .int x2), (3, .int x3), (4, .int x4)] [.int t0, .int t1, .ref q_steps] := by
                intro t0 t1 x2 x3 x4 a_steps h
                refine z_iast (q0 := 2) (ws' := [(q_this, .inr (12, [.ref q_s, .ref q_before, .ref q_saved, .int f_isSaved, .ref q_past, .int f_pastMany, .int f_thrown, .int f_reason, .int f_detail, .int f_isRefused, .ref q_steps, .ref q_goes, .int f_goesMany, .int f_roundSteps, .ref q_line, .int f_lineMany, .ref q_text, .int f_length, .int f_at, .int f_isWrong, .int f_errorAt, .ref q_orders, .int f_orderMany])), (q_s, .inl (g 0, 147, .inl a_s)), (q_steps, .inl (g 0, 64, .inl (upd a_steps t1.toNatClampNeg t0)))]) X dX12_tellsWays_131 rfl h rfl (fun h => ?_)
                refine z_iinc X 3 [(4, .int (x4 + 1)), (0, .ref q_this), (2, .int x2), (3, .int x3)] dX12_tellsWays_132 rfl rfl (by decide) rfl ?_
                refine z_goto X 51 dX12_tellsWays_135 (by decide) ?_
                refine z_sub (lv' := [(0, .ref q_this), (2, .int x2), (3, .int x3), (4, .int (x4 + 1))]) [1, 2, 3, 0] rfl ?_
                exact ih51 x2 x3 (x4 + 1) (upd a_steps t1.toNatClampNeg t0) h
              have H105 : ∀ (t0 : Int32) (x2 : Int32) (x3 : Int32) (x4 : Int32) (a_steps : Nat → Int32), J_X12_tellsWays_105 p1 a_s (L_X12_tellsWays_34 p1 a_s n34) (L_X12_tellsWays_42 p1 a_s (L_X12_tellsWays_34 p1 a_s n34) n42) (L_X12_tellsWays_51 p1 a_s (L_X12_tellsWays_34 p1 a_s n34) (L_X12_tellsWays_42 p1 a_s (L_X12_tellsWays_34 p1 a_s n34) n42) n51) t0 x2 x3 x4 a_steps = some o → Z p l e { frames := 2, cells := 0, slots := 0, locals := 61 } s m args below meth c Q 6 0 0 (IW D A s [(q_this, .inr (12, [.ref q_s, .ref q_before, .ref q_saved, .int f_isSaved, .ref q_past, .int f_pastMany, .int f_thrown, .int f_reason, .int f_detail, .int f_isRefused, .ref q_steps, .ref q_goes, .int f_goesMany, .int f_roundSteps, .ref q_line, .int f_lineMany, .ref q_text, .int f_length, .int f_at, .int f_isWrong, .int f_errorAt, .ref q_orders, .int f_orderMany])), (q_s, .inl (g 0, 147, .inl a_s)), (q_steps, .inl (g 0, 64, .inl a_steps))]) 105 [(0, .ref q_this), (2, .int x2), (3, .int x3), (4, .int x4)] [.int t0] := by
                intro t0 x2 x3 x4 a_steps h
                refine z_istore X [(5, .int t0), (0, .ref q_this), (2, .int x2), (3, .int x3), (4, .int x4)] dX12_tellsWays_105 (by decide) rfl ?_
                refine z_aload_n X 1 dX12_tellsWays_107 rfl rfl ?_
                refine z_get (q0 := 0) (k := 10) (ci := 12) X IW_P iw_X12 rfl qf_X12_X12_steps (by decide) dX12_tellsWays_108 rfl rfl ?_
                refine z_iload X 4 dX12_tellsWays_111 rfl ?_
                refine z_iload X 0 dX12_tellsWays_113 rfl ?_
                refine z_if_eq X 124 dX12_tellsWays_115 (by decide) h (fun _ h => ?_) (fun _ h => ?_)
                · refine z_aload_n X 1 dX12_tellsWays_124 rfl rfl ?_
                  refine z_get (q0 := 0) (k := 10) (ci := 12) X IW_P iw_X12 rfl qf_X12_X12_steps (by decide) dX12_tellsWays_125 rfl rfl ?_
                  refine z_iload X 4 dX12_tellsWays_128 rfl ?_
                  refine z_iald (q0 := 2) X IW_P dX12_tellsWays_130 rfl h (fun h => ?_)
                  refine z_sub (lv' := [(0, .ref q_this), (2, .int x2), (3, .int x3), (4, .int x4)]) [1, 2, 3, 4] rfl ?_
                  exact H131 (a_steps x4.toNatClampNeg) x4 x2 x3 x4 a_steps h
                · refine z_iload_n X 2 dX12_tellsWays_118 rfl rfl ?_
                  refine z_iconst X (1 : Int32) dX12_tellsWays_119 (by decide) ?_
                  refine z_iadd X dX12_tellsWays_120 ?_
                  refine z_goto X 131 dX12_tellsWays_121 (by decide) ?_
                  refine z_sub (lv' := [(0, .ref q_this), (2, .int x2), (3, .int x3), (4, .int x4)]) [1, 2, 3, 4] rfl ?_
                  exact H131 (x2 + (1 : Int32)) x4 x2 x3 x4 a_steps h
              have H104 : ∀ (x2 : Int32) (x3 : Int32) (x4 : Int32) (a_steps : Nat → Int32), J_X12_tellsWays_104 p1 a_s (L_X12_tellsWays_34 p1 a_s n34) (L_X12_tellsWays_42 p1 a_s (L_X12_tellsWays_34 p1 a_s n34) n42) (L_X12_tellsWays_51 p1 a_s (L_X12_tellsWays_34 p1 a_s n34) (L_X12_tellsWays_42 p1 a_s (L_X12_tellsWays_34 p1 a_s n34) n42) n51) x2 x3 x4 a_steps = some o → Z p l e { frames := 2, cells := 0, slots := 0, locals := 61 } s m args below meth c Q 6 0 0 (IW D A s [(q_this, .inr (12, [.ref q_s, .ref q_before, .ref q_saved, .int f_isSaved, .ref q_past, .int f_pastMany, .int f_thrown, .int f_reason, .int f_detail, .int f_isRefused, .ref q_steps, .ref q_goes, .int f_goesMany, .int f_roundSteps, .ref q_line, .int f_lineMany, .ref q_text, .int f_length, .int f_at, .int f_isWrong, .int f_errorAt, .ref q_orders, .int f_orderMany])), (q_s, .inl (g 0, 147, .inl a_s)), (q_steps, .inl (g 0, 64, .inl a_steps))]) 104 [(0, .ref q_this), (2, .int x2), (3, .int x3), (4, .int x4)] [] := by
                intro x2 x3 x4 a_steps h
                refine z_iconst X (0 : Int32) dX12_tellsWays_104 (by decide) ?_
                exact H105 (0 : Int32) x2 x3 x4 a_steps h
              refine z_iload X 3 dX12_tellsWays_51 rfl ?_
              refine z_bipush X (64 : Int32) dX12_tellsWays_53 (by decide) ?_
              refine z_icmp_ge X 138 dX12_tellsWays_55 (by decide) h (fun _ h => ?_) (fun _ h => ?_)
              · refine z_iinc X 2 [(3, .int (x3 + 1)), (0, .ref q_this), (2, .int x2), (4, .int x4)] dX12_tellsWays_138 rfl rfl (by decide) rfl ?_
                refine z_goto X 42 dX12_tellsWays_141 (by decide) ?_
                refine z_sub (lv' := [(0, .ref q_this), (2, .int x2), (3, .int (x3 + 1))]) [1, 2, 0] rfl ?_
                exact ih42 x2 (x3 + 1) a_steps h
              · refine z_aload_n X 0 dX12_tellsWays_58 rfl rfl ?_
                refine z_get (q0 := 0) (k := 10) (ci := 12) X IW_P iw_X12 rfl qf_X12_X12_steps (by decide) dX12_tellsWays_59 rfl rfl ?_
                refine z_iload_n X 2 dX12_tellsWays_62 rfl rfl ?_
                refine z_iald (q0 := 2) X IW_P dX12_tellsWays_63 rfl h (fun h => ?_)
                refine z_iload_n X 1 dX12_tellsWays_64 rfl rfl ?_
                refine z_icmp_ne X 138 dX12_tellsWays_65 (by decide) h (fun _ h => ?_) (fun _ h => ?_)
                · refine z_iload_n X 2 dX12_tellsWays_68 rfl rfl ?_
                  refine z_iload X 3 dX12_tellsWays_69 rfl ?_
                  obtain ⟨o1, e2, h⟩ := bnd_p h
                  refine z_rdS (rest := []) X IW_P k_X12_far (c_X12_far l D g x3 x4 o1 e2) ql_X12_X12_far dX12_tellsWays_71 [] rfl rfl rfl ⟨Nat.le_of_ble_eq_true rfl, Nat.le_of_ble_eq_true rfl, rfl, rfl, Nat.le_of_ble_eq_true rfl, Nat.le_of_ble_eq_true rfl⟩ (Nat.le_of_ble_eq_true rfl) ?_
                  refine z_iconst X (1 : Int32) dX12_tellsWays_74 (by decide) ?_
                  refine z_icmp_ne X 104 dX12_tellsWays_75 (by decide) h (fun _ h => ?_) (fun _ h => ?_)
                  · refine z_aload_n X 0 dX12_tellsWays_78 rfl rfl ?_
                    refine z_iload X 3 dX12_tellsWays_79 rfl ?_
                    obtain ⟨o3, e4, h⟩ := bnd_p h
                    refine z_rdV (rest := []) (q0 := 0) (ci := 12) X IW_P k_X12_isBlocked (c_X12_isBlocked l D g q_this q_s q_before q_saved q_past q_steps q_goes q_line q_text q_orders x4 f_isSaved f_pastMany f_thrown f_reason f_detail f_isRefused f_goesMany f_roundSteps f_lineMany f_length f_at f_isWrong f_errorAt f_orderMany a_s o3 e4) ql_X12_X12_isBlocked dX12_tellsWays_81 [0, 1] rfl rfl rfl rfl rfl rfl ⟨Nat.le_of_ble_eq_true rfl, Nat.le_of_ble_eq_true rfl, rfl, rfl, Nat.le_of_ble_eq_true rfl, Nat.le_of_ble_eq_true rfl⟩ (Nat.le_of_ble_eq_true rfl) ?_
                    refine z_if_ne X 104 dX12_tellsWays_84 (by decide) h (fun _ h => ?_) (fun _ h => ?_)
                    · refine z_aload_n X 0 dX12_tellsWays_87 rfl rfl ?_
                      refine z_get (q0 := 0) (k := 10) (ci := 12) X IW_P iw_X12 rfl qf_X12_X12_steps (by decide) dX12_tellsWays_88 rfl rfl ?_
                      refine z_iload X 3 dX12_tellsWays_91 rfl ?_
                      refine z_iald (q0 := 2) X IW_P dX12_tellsWays_93 rfl h (fun h => ?_)
                      refine z_sipush X (1000 : Int32) dX12_tellsWays_94 (by decide) ?_
                      refine z_icmp_ne X 104 dX12_tellsWays_97 (by decide) h (fun _ h => ?_) (fun _ h => ?_)
                      · refine z_iconst X (1 : Int32) dX12_tellsWays_100 (by decide) ?_
                        refine z_goto X 105 dX12_tellsWays_101 (by decide) ?_
                        exact H105 (1 : Int32) x2 x3 x4 a_steps h
                      · exact H104 x2 x3 x4 a_steps h
                    · exact H104 x2 x3 x4 a_steps h
                  · exact H104 x2 x3 x4 a_steps h
                · refine z_iinc X 2 [(3, .int (x3 + 1)), (0, .ref q_this), (2, .int x2), (4, .int x4)] dX12_tellsWays_138 rfl rfl (by decide) rfl ?_
                  refine z_goto X 42 dX12_tellsWays_141 (by decide) ?_
                  refine z_sub (lv' := [(0, .ref q_this), (2, .int x2), (3, .int (x3 + 1))]) [1, 2, 0] rfl ?_
                  exact ih42 x2 (x3 + 1) a_steps h
          refine z_iload_n X 2 dX12_tellsWays_42 rfl rfl ?_
          refine z_bipush X (64 : Int32) dX12_tellsWays_43 (by decide) ?_
          refine z_icmp_ge X 144 dX12_tellsWays_45 (by decide) h (fun _ h => ?_) (fun _ h => ?_)
          · refine z_iinc X 1 [(2, .int (x2 + 1)), (0, .ref q_this), (3, .int x3)] dX12_tellsWays_144 rfl rfl (by decide) rfl ?_
            refine z_goto X 34 dX12_tellsWays_147 (by decide) ?_
            refine z_sub (lv' := [(0, .ref q_this), (2, .int (x2 + 1))]) [1, 0] rfl ?_
            exact ih34 (x2 + 1) a_steps h
          · refine z_iconst X (0 : Int32) dX12_tellsWays_48 (by decide) ?_
            refine z_istore X [(4, .int (0 : Int32)), (0, .ref q_this), (2, .int x2), (3, .int x3)] dX12_tellsWays_49 (by decide) rfl ?_
            refine z_sub (lv' := [(0, .ref q_this), (2, .int x2), (3, .int x3), (4, .int (0 : Int32))]) [1, 2, 3, 0] rfl ?_
            exact H51 100 x2 x3 (0 : Int32) a_steps h
      refine z_iload_n X 1 dX12_tellsWays_34 rfl rfl ?_
      refine z_bipush X (64 : Int32) dX12_tellsWays_35 (by decide) ?_
      refine z_icmp_ge X 150 dX12_tellsWays_37 (by decide) h (fun _ h => ?_) (fun _ h => ?_)
      · cases h
        exact z_vretW X hQ hA hr dX12_tellsWays_150
      · refine z_iconst X (0 : Int32) dX12_tellsWays_40 (by decide) ?_
        refine z_istore_n X [(3, .int (0 : Int32)), (0, .ref q_this), (2, .int x2)] dX12_tellsWays_41 rfl (by decide) rfl ?_
        refine z_sub (lv' := [(0, .ref q_this), (2, .int x2), (3, .int (0 : Int32))]) [1, 2, 0] rfl ?_
        exact H42 100 x2 (0 : Int32) a_steps h
  have H2 : ∀ (n : Nat) (x2 : Int32) (a_steps : Nat → Int32), L_X12_tellsWays_2 p1 a_s  n x2 a_steps = some o → Z p l e { frames := 2, cells := 0, slots := 0, locals := 61 } s m args below meth c Q 6 0 0 (IW D A s [(q_this, .inr (12, [.ref q_s, .ref q_before, .ref q_saved, .int f_isSaved, .ref q_past, .int f_pastMany, .int f_thrown, .int f_reason, .int f_detail, .int f_isRefused, .ref q_steps, .ref q_goes, .int f_goesMany, .int f_roundSteps, .ref q_line, .int f_lineMany, .ref q_text, .int f_length, .int f_at, .int f_isWrong, .int f_errorAt, .ref q_orders, .int f_orderMany])), (q_s, .inl (g 0, 147, .inl a_s)), (q_steps, .inl (g 0, 64, .inl a_steps))]) 2 [(0, .ref q_this), (1, .int p1), (2, .int x2)] [] := by
    intro n
    induction n with
    | zero => intro x2 a_steps h; cases h
    | succ n2 ih2 =>
      intro x2 a_steps h
      have H25 : ∀ (t0 : Int32) (t1 : Int32) (x2 : Int32) (a_steps : Nat → Int32), J_X12_tellsWays_25 p1 a_s (L_X12_tellsWays_2 p1 a_s n2) t0 t1 x2 a_steps = some o → Z p l e { frames := 2, cells := 0, slots := 0, locals := 61 } s m args below meth c Q 6 0 0 (IW D A s [(q_this, .inr (12, [.ref q_s, .ref q_before, .ref q_saved, .int f_isSaved, .ref q_past, .int f_pastMany, .int f_thrown, .int f_reason, .int f_detail, .int f_isRefused, .ref q_steps, .ref q_goes, .int f_goesMany, .int f_roundSteps, .ref q_line, .int f_lineMany, .ref q_text, .int f_length, .int f_at, .int f_isWrong, .int f_errorAt, .ref q_orders, .int f_orderMany])), (q_s, .inl (g 0, 147, .inl a_s)), (q_steps, .inl (g 0, 64, .inl a_steps))]) 25 [(0, .ref q_this), (1, .int p1), (2, .int x2)] [.int t0, .int t1, .ref q_steps] := by
        intro t0 t1 x2 a_steps h
        refine z_iast (q0 := 2) (ws' := [(q_this, .inr (12, [.ref q_s, .ref q_before, .ref q_saved, .int f_isSaved, .ref q_past, .int f_pastMany, .int f_thrown, .int f_reason, .int f_detail, .int f_isRefused, .ref q_steps, .ref q_goes, .int f_goesMany, .int f_roundSteps, .ref q_line, .int f_lineMany, .ref q_text, .int f_length, .int f_at, .int f_isWrong, .int f_errorAt, .ref q_orders, .int f_orderMany])), (q_s, .inl (g 0, 147, .inl a_s)), (q_steps, .inl (g 0, 64, .inl (upd a_steps t1.toNatClampNeg t0)))]) X dX12_tellsWays_25 rfl h rfl (fun h => ?_)
        refine z_iinc X 2 [(2, .int (x2 + 1)), (0, .ref q_this), (1, .int p1)] dX12_tellsWays_26 rfl rfl (by decide) rfl ?_
        refine z_goto X 2 dX12_tellsWays_29 (by decide) ?_
        refine z_sub (lv' := [(0, .ref q_this), (1, .int p1), (2, .int (x2 + 1))]) [1, 2, 0] rfl ?_
        exact ih2 (x2 + 1) (upd a_steps t1.toNatClampNeg t0) h
      refine z_iload_n X 2 dX12_tellsWays_2 rfl rfl ?_
      refine z_bipush X (64 : Int32) dX12_tellsWays_3 (by decide) ?_
      refine z_icmp_ge X 32 dX12_tellsWays_5 (by decide) h (fun _ h => ?_) (fun _ h => ?_)
      · refine z_iconst X (0 : Int32) dX12_tellsWays_32 (by decide) ?_
        refine z_istore_n X [(2, .int (0 : Int32)), (0, .ref q_this), (1, .int p1)] dX12_tellsWays_33 rfl (by decide) rfl ?_
        refine z_sub (lv' := [(0, .ref q_this), (2, .int (0 : Int32))]) [1, 0] rfl ?_
        exact H34 100 (0 : Int32) a_steps h
      · refine z_aload_n X 0 dX12_tellsWays_8 rfl rfl ?_
        refine z_get (q0 := 0) (k := 10) (ci := 12) X IW_P iw_X12 rfl qf_X12_X12_steps (by decide) dX12_tellsWays_9 rfl rfl ?_
        refine z_iload_n X 2 dX12_tellsWays_12 rfl rfl ?_
        refine z_iload_n X 2 dX12_tellsWays_13 rfl rfl ?_
        refine z_iload_n X 1 dX12_tellsWays_14 rfl rfl ?_
        refine z_icmp_ne X 22 dX12_tellsWays_15 (by decide) h (fun _ h => ?_) (fun _ h => ?_)
        · refine z_iconst X (0 : Int32) dX12_tellsWays_18 (by decide) ?_
          refine z_goto X 25 dX12_tellsWays_19 (by decide) ?_
          exact H25 (0 : Int32) x2 x2 a_steps h
        · refine z_sipush X (1000 : Int32) dX12_tellsWays_22 (by decide) ?_
          exact H25 (1000 : Int32) x2 x2 a_steps h
  refine z_iconst X (0 : Int32) dX12_tellsWays_0 (by decide) ?_
  refine z_istore_n X [(2, .int (0 : Int32)), (0, .ref q_this), (1, .int p1)] dX12_tellsWays_1 rfl (by decide) rfl ?_
  refine z_sub (lv' := [(0, .ref q_this), (1, .int p1), (2, .int (0 : Int32))]) [1, 2, 0] rfl ?_
  exact H2 100 (0 : Int32) a_steps h

def J_X12_apart_20 (p1 : Int32) (p2 : Int32) (t0 : Int32) (f_thrown : Int32) : Option (Int32 × Int32) :=
  brn (t0 ≤ 0) (bnd (F_X12_far p1 p2) (fun o3 => some (o3, t0))) (some ((0 : Int32), t0))

def J_X12_apart_19 (p1 : Int32) (p2 : Int32) (f_thrown : Int32) : Option (Int32 × Int32) :=
  J_X12_apart_20 p1 p2 (1 : Int32) f_thrown

def F_X12_apart (p1 : Int32) (p2 : Int32) (f_thrown : Int32) : Option (Int32 × Int32) :=
  bnd (F_X12_isCell p1) (fun o1 => brn (o1 = 0) (J_X12_apart_19 p1 p2 f_thrown) (bnd (F_X12_isCell p2) (fun o5 => brn (o5 = 0) (J_X12_apart_19 p1 p2 f_thrown) (J_X12_apart_20 p1 p2 (0 : Int32) f_thrown))))
theorem dX12_apart_0 : decode cX12_apart 0 = .ok (.aload_n 0, 1) := by decide +kernel
theorem dX12_apart_1 : decode cX12_apart 1 = .ok (.iload_n 1, 1) := by decide +kernel
theorem dX12_apart_2 : decode cX12_apart 2 = .ok (.invokestatic 81, 3) := by decide +kernel
theorem dX12_apart_5 : decode cX12_apart 5 = .ok (.ifCond .eq 14, 3) := by decide +kernel
theorem dX12_apart_8 : decode cX12_apart 8 = .ok (.iload_n 2, 1) := by decide +kernel
theorem dX12_apart_9 : decode cX12_apart 9 = .ok (.invokestatic 81, 3) := by decide +kernel
theorem dX12_apart_12 : decode cX12_apart 12 = .ok (.ifCond .eq 7, 3) := by decide +kernel
theorem dX12_apart_15 : decode cX12_apart 15 = .ok (.iconst 0, 1) := by decide +kernel
theorem dX12_apart_16 : decode cX12_apart 16 = .ok (.goto 4, 3) := by decide +kernel
theorem dX12_apart_19 : decode cX12_apart 19 = .ok (.iconst 1, 1) := by decide +kernel
theorem dX12_apart_20 : decode cX12_apart 20 = .ok (.putfield 42, 3) := by decide +kernel
theorem dX12_apart_23 : decode cX12_apart 23 = .ok (.aload_n 0, 1) := by decide +kernel
theorem dX12_apart_24 : decode cX12_apart 24 = .ok (.getfield 42, 3) := by decide +kernel
theorem dX12_apart_27 : decode cX12_apart 27 = .ok (.ifCond .le 7, 3) := by decide +kernel
theorem dX12_apart_30 : decode cX12_apart 30 = .ok (.iconst 0, 1) := by decide +kernel
theorem dX12_apart_31 : decode cX12_apart 31 = .ok (.goto 8, 3) := by decide +kernel
theorem dX12_apart_34 : decode cX12_apart 34 = .ok (.iload_n 1, 1) := by decide +kernel
theorem dX12_apart_35 : decode cX12_apart 35 = .ok (.iload_n 2, 1) := by decide +kernel
theorem dX12_apart_36 : decode cX12_apart 36 = .ok (.invokestatic 145, 3) := by decide +kernel
theorem dX12_apart_39 : decode cX12_apart 39 = .ok (.ireturn, 1) := by decide +kernel
theorem k_X12_apart : cardV yX12_apart (Cond.code yX12_apart cX12_apart 3 (some .int)) 2 := ⟨⟨qi_X12_apart, qv_X12_apart⟩, qc_X12_apart, qn_X12, by decide +kernel, by decide +kernel, by decide +kernel⟩
set_option maxHeartbeats 4000000 in
set_option maxRecDepth 100000 in
theorem c_X12_apart (l : Launch) (D : va_G) (g : Nat → ClassId) (q_this q_s q_before q_saved q_past q_steps q_goes q_line q_text q_orders : Nat) (p1 p2 : Int32) (f_isSaved : Int32) (f_pastMany : Int32) (f_thrown : Int32) (f_reason : Int32) (f_detail : Int32) (f_isRefused : Int32) (f_goesMany : Int32) (f_roundSteps : Int32) (f_lineMany : Int32) (f_length : Int32) (f_at : Int32) (f_isWrong : Int32) (f_errorAt : Int32) (f_orderMany : Int32) (o : Int32 × Int32) (h : F_X12_apart p1 p2 f_thrown = some o) : MW l yX12_apart (Cond.code yX12_apart cX12_apart 3 (some .int)) { frames := 2, cells := 0, slots := 0, locals := 61 } D g [.ref q_this, .int p1, .int p2] [(q_this, .inr (12, [.ref q_s, .ref q_before, .ref q_saved, .int f_isSaved, .ref q_past, .int f_pastMany, .int f_thrown, .int f_reason, .int f_detail, .int f_isRefused, .ref q_steps, .ref q_goes, .int f_goesMany, .int f_roundSteps, .ref q_line, .int f_lineMany, .ref q_text, .int f_length, .int f_at, .int f_isWrong, .int f_errorAt, .ref q_orders, .int f_orderMany]))] (some (.int o.1)) [(q_this, .inr (12, [.ref q_s, .ref q_before, .ref q_saved, .int f_isSaved, .ref q_past, .int f_pastMany, .int o.2, .int f_reason, .int f_detail, .int f_isRefused, .ref q_steps, .ref q_goes, .int f_goesMany, .int f_roundSteps, .ref q_line, .int f_lineMany, .ref q_text, .int f_length, .int f_at, .int f_isWrong, .int f_errorAt, .ref q_orders, .int f_orderMany]))] := by
  refine z_wr_start (by decide) (Nat.le_of_ble_eq_true rfl) ?_
  intro p e s m args below meth c Q A X hr hQ hA
  refine z_lv (lv' := [(0, .ref q_this), (1, .int p1), (2, .int p2)]) rfl ?_
  have H20 : ∀ (t0 : Int32) (f_thrown : Int32), J_X12_apart_20 p1 p2 t0 f_thrown = some o → Z p l e { frames := 2, cells := 0, slots := 0, locals := 61 } s m args below meth c Q 3 0 0 (IW D A s [(q_this, .inr (12, [.ref q_s, .ref q_before, .ref q_saved, .int f_isSaved, .ref q_past, .int f_pastMany, .int f_thrown, .int f_reason, .int f_detail, .int f_isRefused, .ref q_steps, .ref q_goes, .int f_goesMany, .int f_roundSteps, .ref q_line, .int f_lineMany, .ref q_text, .int f_length, .int f_at, .int f_isWrong, .int f_errorAt, .ref q_orders, .int f_orderMany]))]) 20 [(0, .ref q_this), (1, .int p1), (2, .int p2)] [.int t0, .ref q_this] := by
    intro t0 f_thrown h
    refine z_put (q0 := 0) (k := 6) (ci := 12) (ws' := [(q_this, .inr (12, [.ref q_s, .ref q_before, .ref q_saved, .int f_isSaved, .ref q_past, .int f_pastMany, .int t0, .int f_reason, .int f_detail, .int f_isRefused, .ref q_steps, .ref q_goes, .int f_goesMany, .int f_roundSteps, .ref q_line, .int f_lineMany, .ref q_text, .int f_length, .int f_at, .int f_isWrong, .int f_errorAt, .ref q_orders, .int f_orderMany]))]) X iw_X12 tyX12_ok nmX12 rfl qf_X12_X12_thrown (by decide) rfl rfl dX12_apart_20 rfl rfl rfl (Nat.le_of_ble_eq_true rfl) rfl ?_
    refine z_aload_n X 0 dX12_apart_23 rfl rfl ?_
    refine z_get (q0 := 0) (k := 6) (ci := 12) X IW_P iw_X12 rfl qf_X12_X12_thrown (by decide) dX12_apart_24 rfl rfl ?_
    refine z_if_le X 34 dX12_apart_27 (by decide) h (fun _ h => ?_) (fun _ h => ?_)
    · refine z_iload_n X 1 dX12_apart_34 rfl rfl ?_
      refine z_iload_n X 2 dX12_apart_35 rfl rfl ?_
      obtain ⟨o3, e4, h⟩ := bnd_p h
      refine z_rdS (rest := []) X IW_P k_X12_far (c_X12_far l D g p1 p2 o3 e4) ql_X12_X12_far dX12_apart_36 [] rfl rfl rfl ⟨Nat.le_of_ble_eq_true rfl, Nat.le_of_ble_eq_true rfl, rfl, rfl, Nat.le_of_ble_eq_true rfl, Nat.le_of_ble_eq_true rfl⟩ (Nat.le_of_ble_eq_true rfl) ?_
      cases h
      exact z_iretW X hQ hA hr dX12_apart_39
    · refine z_iconst X (0 : Int32) dX12_apart_30 (by decide) ?_
      refine z_goto X 39 dX12_apart_31 (by decide) ?_
      cases h
      exact z_iretW X hQ hA hr dX12_apart_39
  have H19 : ∀ (f_thrown : Int32), J_X12_apart_19 p1 p2 f_thrown = some o → Z p l e { frames := 2, cells := 0, slots := 0, locals := 61 } s m args below meth c Q 3 0 0 (IW D A s [(q_this, .inr (12, [.ref q_s, .ref q_before, .ref q_saved, .int f_isSaved, .ref q_past, .int f_pastMany, .int f_thrown, .int f_reason, .int f_detail, .int f_isRefused, .ref q_steps, .ref q_goes, .int f_goesMany, .int f_roundSteps, .ref q_line, .int f_lineMany, .ref q_text, .int f_length, .int f_at, .int f_isWrong, .int f_errorAt, .ref q_orders, .int f_orderMany]))]) 19 [(0, .ref q_this), (1, .int p1), (2, .int p2)] [.ref q_this] := by
    intro f_thrown h
    refine z_iconst X (1 : Int32) dX12_apart_19 (by decide) ?_
    exact H20 (1 : Int32) f_thrown h
  refine z_aload_n X 0 dX12_apart_0 rfl rfl ?_
  refine z_iload_n X 1 dX12_apart_1 rfl rfl ?_
  obtain ⟨o1, e2, h⟩ := bnd_p h
  refine z_rdS (rest := [.ref q_this]) X IW_P k_X12_isCell (c_X12_isCell l D g p1 o1 e2) ql_X12_X12_isCell dX12_apart_2 [] rfl rfl rfl ⟨Nat.le_of_ble_eq_true rfl, Nat.le_of_ble_eq_true rfl, rfl, rfl, Nat.le_of_ble_eq_true rfl, Nat.le_of_ble_eq_true rfl⟩ (Nat.le_of_ble_eq_true rfl) ?_
  refine z_if_eq X 19 dX12_apart_5 (by decide) h (fun _ h => ?_) (fun _ h => ?_)
  · exact H19 f_thrown h
  · refine z_iload_n X 2 dX12_apart_8 rfl rfl ?_
    obtain ⟨o5, e6, h⟩ := bnd_p h
    refine z_rdS (rest := [.ref q_this]) X IW_P k_X12_isCell (c_X12_isCell l D g p2 o5 e6) ql_X12_X12_isCell dX12_apart_9 [] rfl rfl rfl ⟨Nat.le_of_ble_eq_true rfl, Nat.le_of_ble_eq_true rfl, rfl, rfl, Nat.le_of_ble_eq_true rfl, Nat.le_of_ble_eq_true rfl⟩ (Nat.le_of_ble_eq_true rfl) ?_
    refine z_if_eq X 19 dX12_apart_12 (by decide) h (fun _ h => ?_) (fun _ h => ?_)
    · exact H19 f_thrown h
    · refine z_iconst X (0 : Int32) dX12_apart_15 (by decide) ?_
      refine z_goto X 20 dX12_apart_16 (by decide) ?_
      exact H20 (0 : Int32) f_thrown h

def J_X12_way_14 (p1 : Int32) (p2 : Int32) (p3 : Int32) (a_s : Nat → Int32) (f_thrown : Int32) (a_steps : Nat → Int32) : Option (Int32 × Int32 × (Nat → Int32)) :=
  bnd (F_X12_fails (1 : Int32) f_thrown) (fun o3 => some (o3.1, o3.2, a_steps))

def J_X12_way_43 (p1 : Int32) (p2 : Int32) (p3 : Int32) (a_s : Nat → Int32) (t0 : Int32) (f_thrown : Int32) (a_steps : Nat → Int32) : Option (Int32 × Int32 × (Nat → Int32)) :=
  brn (t0 ≤ 0) (grd (inb p2 64) (some (a_steps p2.toNatClampNeg, t0, a_steps))) (some ((0 : Int32), t0, a_steps))

def F_X12_way (p1 : Int32) (p2 : Int32) (p3 : Int32) (a_s : Nat → Int32) (f_thrown : Int32) (a_steps : Nat → Int32) : Option (Int32 × Int32 × (Nat → Int32)) :=
  bnd (F_X12_isCell p1) (fun o1 => brn (o1 = 0) (J_X12_way_14 p1 p2 p3 a_s f_thrown a_steps) (bnd (F_X12_isCell p2) (fun o5 => brn (o5 = 0) (J_X12_way_14 p1 p2 p3 a_s f_thrown a_steps) (bnd (F_X12_tellsWays p1 a_s a_steps) (fun o7 => grd (inb p2 64) (brn ((o7 p2.toNatClampNeg) = (1000 : Int32)) (J_X12_way_43 p1 p2 p3 a_s (2 : Int32) f_thrown o7) (J_X12_way_43 p1 p2 p3 a_s (0 : Int32) f_thrown o7)))))))
theorem dX12_way_0 : decode cX12_way 0 = .ok (.iload_n 1, 1) := by decide +kernel
theorem dX12_way_1 : decode cX12_way 1 = .ok (.invokestatic 81, 3) := by decide +kernel
theorem dX12_way_4 : decode cX12_way 4 = .ok (.ifCond .eq 10, 3) := by decide +kernel
theorem dX12_way_7 : decode cX12_way 7 = .ok (.iload_n 2, 1) := by decide +kernel
theorem dX12_way_8 : decode cX12_way 8 = .ok (.invokestatic 81, 3) := by decide +kernel
theorem dX12_way_11 : decode cX12_way 11 = .ok (.ifCond .ne 9, 3) := by decide +kernel
theorem dX12_way_14 : decode cX12_way 14 = .ok (.aload_n 0, 1) := by decide +kernel
theorem dX12_way_15 : decode cX12_way 15 = .ok (.iconst 1, 1) := by decide +kernel
theorem dX12_way_16 : decode cX12_way 16 = .ok (.invokevirtual 88, 3) := by decide +kernel
theorem dX12_way_19 : decode cX12_way 19 = .ok (.ireturn, 1) := by decide +kernel
theorem dX12_way_20 : decode cX12_way 20 = .ok (.aload_n 0, 1) := by decide +kernel
theorem dX12_way_21 : decode cX12_way 21 = .ok (.iload_n 1, 1) := by decide +kernel
theorem dX12_way_22 : decode cX12_way 22 = .ok (.invokevirtual 192, 3) := by decide +kernel
theorem dX12_way_25 : decode cX12_way 25 = .ok (.aload_n 0, 1) := by decide +kernel
theorem dX12_way_26 : decode cX12_way 26 = .ok (.aload_n 0, 1) := by decide +kernel
theorem dX12_way_27 : decode cX12_way 27 = .ok (.getfield 22, 3) := by decide +kernel
theorem dX12_way_30 : decode cX12_way 30 = .ok (.iload_n 2, 1) := by decide +kernel
theorem dX12_way_31 : decode cX12_way 31 = .ok (.iaload, 1) := by decide +kernel
theorem dX12_way_32 : decode cX12_way 32 = .ok (.sipush 1000, 3) := by decide +kernel
theorem dX12_way_35 : decode cX12_way 35 = .ok (.if_icmp .ne 7, 3) := by decide +kernel
theorem dX12_way_38 : decode cX12_way 38 = .ok (.iconst 2, 1) := by decide +kernel
theorem dX12_way_39 : decode cX12_way 39 = .ok (.goto 4, 3) := by decide +kernel
theorem dX12_way_42 : decode cX12_way 42 = .ok (.iconst 0, 1) := by decide +kernel
theorem dX12_way_43 : decode cX12_way 43 = .ok (.putfield 42, 3) := by decide +kernel
theorem dX12_way_46 : decode cX12_way 46 = .ok (.aload_n 0, 1) := by decide +kernel
theorem dX12_way_47 : decode cX12_way 47 = .ok (.getfield 42, 3) := by decide +kernel
theorem dX12_way_50 : decode cX12_way 50 = .ok (.ifCond .le 7, 3) := by decide +kernel
theorem dX12_way_53 : decode cX12_way 53 = .ok (.iconst 0, 1) := by decide +kernel
theorem dX12_way_54 : decode cX12_way 54 = .ok (.goto 9, 3) := by decide +kernel
theorem dX12_way_57 : decode cX12_way 57 = .ok (.aload_n 0, 1) := by decide +kernel
theorem dX12_way_58 : decode cX12_way 58 = .ok (.getfield 22, 3) := by decide +kernel
theorem dX12_way_61 : decode cX12_way 61 = .ok (.iload_n 2, 1) := by decide +kernel
theorem dX12_way_62 : decode cX12_way 62 = .ok (.iaload, 1) := by decide +kernel
theorem dX12_way_63 : decode cX12_way 63 = .ok (.ireturn, 1) := by decide +kernel
theorem k_X12_way : cardV yX12_way (Cond.code yX12_way cX12_way 4 (some .int)) 3 := ⟨⟨qi_X12_way, qv_X12_way⟩, qc_X12_way, qn_X12, by decide +kernel, by decide +kernel, by decide +kernel⟩
set_option maxHeartbeats 4000000 in
set_option maxRecDepth 100000 in
theorem c_X12_way (l : Launch) (D : va_G) (g : Nat → ClassId) (q_this q_s q_before q_saved q_past q_steps q_goes q_line q_text q_orders : Nat) (p1 p2 p3 : Int32) (f_isSaved : Int32) (f_pastMany : Int32) (f_thrown : Int32) (f_reason : Int32) (f_detail : Int32) (f_isRefused : Int32) (f_goesMany : Int32) (f_roundSteps : Int32) (f_lineMany : Int32) (f_length : Int32) (f_at : Int32) (f_isWrong : Int32) (f_errorAt : Int32) (f_orderMany : Int32) (a_s : Nat → Int32) (a_steps : Nat → Int32) (o : Int32 × Int32 × (Nat → Int32)) (h : F_X12_way p1 p2 p3 a_s f_thrown a_steps = some o) : MW l yX12_way (Cond.code yX12_way cX12_way 4 (some .int)) { frames := 3, cells := 0, slots := 0, locals := 86 } D g [.ref q_this, .int p1, .int p2, .int p3] [(q_this, .inr (12, [.ref q_s, .ref q_before, .ref q_saved, .int f_isSaved, .ref q_past, .int f_pastMany, .int f_thrown, .int f_reason, .int f_detail, .int f_isRefused, .ref q_steps, .ref q_goes, .int f_goesMany, .int f_roundSteps, .ref q_line, .int f_lineMany, .ref q_text, .int f_length, .int f_at, .int f_isWrong, .int f_errorAt, .ref q_orders, .int f_orderMany])), (q_s, .inl (g 0, 147, .inl a_s)), (q_steps, .inl (g 0, 64, .inl a_steps))] (some (.int o.1)) [(q_this, .inr (12, [.ref q_s, .ref q_before, .ref q_saved, .int f_isSaved, .ref q_past, .int f_pastMany, .int o.2.1, .int f_reason, .int f_detail, .int f_isRefused, .ref q_steps, .ref q_goes, .int f_goesMany, .int f_roundSteps, .ref q_line, .int f_lineMany, .ref q_text, .int f_length, .int f_at, .int f_isWrong, .int f_errorAt, .ref q_orders, .int f_orderMany])), (q_s, .inl (g 0, 147, .inl a_s)), (q_steps, .inl (g 0, 64, .inl o.2.2))] := by
  refine z_wr_start (by decide) (Nat.le_of_ble_eq_true rfl) ?_
  intro p e s m args below meth c Q A X hr hQ hA
  refine z_lv (lv' := [(0, .ref q_this), (1, .int p1), (2, .int p2), (3, .int p3)]) rfl ?_
  have H14 : ∀ (f_thrown : Int32) (a_steps : Nat → Int32), J_X12_way_14 p1 p2 p3 a_s f_thrown a_steps = some o → Z p l e { frames := 3, cells := 0, slots := 0, locals := 86 } s m args below meth c Q 4 0 0 (IW D A s [(q_this, .inr (12, [.ref q_s, .ref q_before, .ref q_saved, .int f_isSaved, .ref q_past, .int f_pastMany, .int f_thrown, .int f_reason, .int f_detail, .int f_isRefused, .ref q_steps, .ref q_goes, .int f_goesMany, .int f_roundSteps, .ref q_line, .int f_lineMany, .ref q_text, .int f_length, .int f_at, .int f_isWrong, .int f_errorAt, .ref q_orders, .int f_orderMany])), (q_s, .inl (g 0, 147, .inl a_s)), (q_steps, .inl (g 0, 64, .inl a_steps))]) 14 [(0, .ref q_this)] [] := by
    intro f_thrown a_steps h
    refine z_aload_n X 0 dX12_way_14 rfl rfl ?_
    refine z_iconst X (1 : Int32) dX12_way_15 (by decide) ?_
    obtain ⟨o3, e4, h⟩ := bnd_p h
    refine z_wrV (rest := []) (q0 := 0) (ci := 12) (ws' := [(q_this, .inr (12, [.ref q_s, .ref q_before, .ref q_saved, .int f_isSaved, .ref q_past, .int f_pastMany, .int o3.2, .int f_reason, .int f_detail, .int f_isRefused, .ref q_steps, .ref q_goes, .int f_goesMany, .int f_roundSteps, .ref q_line, .int f_lineMany, .ref q_text, .int f_length, .int f_at, .int f_isWrong, .int f_errorAt, .ref q_orders, .int f_orderMany])), (q_s, .inl (g 0, 147, .inl a_s)), (q_steps, .inl (g 0, 64, .inl a_steps))]) (wr := [(q_s, .inl (g 0, 147, .inl a_s)), (q_steps, .inl (g 0, 64, .inl a_steps))]) (as := [q_this, q_s, q_steps]) X k_X12_fails (c_X12_fails l D g q_this q_s q_before q_saved q_past q_steps q_goes q_line q_text q_orders (1 : Int32) f_isSaved f_pastMany f_thrown f_reason f_detail f_isRefused f_goesMany f_roundSteps f_lineMany f_length f_at f_isWrong f_errorAt f_orderMany o3 e4) ql_X12_X12_fails dX12_way_16 [0] [1, 2] ⟨rfl, rfl, rfl, rfl, rfl, rfl, rfl, rfl⟩ rfl rfl rfl rfl rfl ⟨Nat.le_of_ble_eq_true rfl, Nat.le_of_ble_eq_true rfl, rfl, rfl, Nat.le_of_ble_eq_true rfl, Nat.le_of_ble_eq_true rfl⟩ (Nat.le_of_ble_eq_true rfl) ?_
    cases h
    exact z_iretW X hQ hA hr dX12_way_19
  have H43 : ∀ (t0 : Int32) (f_thrown : Int32) (a_steps : Nat → Int32), J_X12_way_43 p1 p2 p3 a_s t0 f_thrown a_steps = some o → Z p l e { frames := 3, cells := 0, slots := 0, locals := 86 } s m args below meth c Q 4 0 0 (IW D A s [(q_this, .inr (12, [.ref q_s, .ref q_before, .ref q_saved, .int f_isSaved, .ref q_past, .int f_pastMany, .int f_thrown, .int f_reason, .int f_detail, .int f_isRefused, .ref q_steps, .ref q_goes, .int f_goesMany, .int f_roundSteps, .ref q_line, .int f_lineMany, .ref q_text, .int f_length, .int f_at, .int f_isWrong, .int f_errorAt, .ref q_orders, .int f_orderMany])), (q_s, .inl (g 0, 147, .inl a_s)), (q_steps, .inl (g 0, 64, .inl a_steps))]) 43 [(0, .ref q_this), (2, .int p2)] [.int t0, .ref q_this] := by
    intro t0 f_thrown a_steps h
    refine z_put (q0 := 0) (k := 6) (ci := 12) (ws' := [(q_this, .inr (12, [.ref q_s, .ref q_before, .ref q_saved, .int f_isSaved, .ref q_past, .int f_pastMany, .int t0, .int f_reason, .int f_detail, .int f_isRefused, .ref q_steps, .ref q_goes, .int f_goesMany, .int f_roundSteps, .ref q_line, .int f_lineMany, .ref q_text, .int f_length, .int f_at, .int f_isWrong, .int f_errorAt, .ref q_orders, .int f_orderMany])), (q_s, .inl (g 0, 147, .inl a_s)), (q_steps, .inl (g 0, 64, .inl a_steps))]) X iw_X12 tyX12_ok nmX12 rfl qf_X12_X12_thrown (by decide) rfl rfl dX12_way_43 rfl rfl rfl (Nat.le_of_ble_eq_true rfl) rfl ?_
    refine z_aload_n X 0 dX12_way_46 rfl rfl ?_
    refine z_get (q0 := 0) (k := 6) (ci := 12) X IW_P iw_X12 rfl qf_X12_X12_thrown (by decide) dX12_way_47 rfl rfl ?_
    refine z_if_le X 57 dX12_way_50 (by decide) h (fun _ h => ?_) (fun _ h => ?_)
    · refine z_aload_n X 0 dX12_way_57 rfl rfl ?_
      refine z_get (q0 := 0) (k := 10) (ci := 12) X IW_P iw_X12 rfl qf_X12_X12_steps (by decide) dX12_way_58 rfl rfl ?_
      refine z_iload_n X 1 dX12_way_61 rfl rfl ?_
      refine z_iald (q0 := 2) X IW_P dX12_way_62 rfl h (fun h => ?_)
      cases h
      exact z_iretW X hQ hA hr dX12_way_63
    · refine z_iconst X (0 : Int32) dX12_way_53 (by decide) ?_
      refine z_goto X 63 dX12_way_54 (by decide) ?_
      cases h
      exact z_iretW X hQ hA hr dX12_way_63
  refine z_iload_n X 1 dX12_way_0 rfl rfl ?_
  obtain ⟨o1, e2, h⟩ := bnd_p h
  refine z_rdS (rest := []) X IW_P k_X12_isCell (c_X12_isCell l D g p1 o1 e2) ql_X12_X12_isCell dX12_way_1 [] rfl rfl rfl ⟨Nat.le_of_ble_eq_true rfl, Nat.le_of_ble_eq_true rfl, rfl, rfl, Nat.le_of_ble_eq_true rfl, Nat.le_of_ble_eq_true rfl⟩ (Nat.le_of_ble_eq_true rfl) ?_
  refine z_if_eq X 14 dX12_way_4 (by decide) h (fun _ h => ?_) (fun _ h => ?_)
  · refine z_sub (lv' := [(0, .ref q_this)]) [0] rfl ?_
    exact H14 f_thrown a_steps h
  · refine z_iload_n X 2 dX12_way_7 rfl rfl ?_
    obtain ⟨o5, e6, h⟩ := bnd_p h
    refine z_rdS (rest := []) X IW_P k_X12_isCell (c_X12_isCell l D g p2 o5 e6) ql_X12_X12_isCell dX12_way_8 [] rfl rfl rfl ⟨Nat.le_of_ble_eq_true rfl, Nat.le_of_ble_eq_true rfl, rfl, rfl, Nat.le_of_ble_eq_true rfl, Nat.le_of_ble_eq_true rfl⟩ (Nat.le_of_ble_eq_true rfl) ?_
    refine z_if_ne X 20 dX12_way_11 (by decide) h (fun _ h => ?_) (fun _ h => ?_)
    · refine z_sub (lv' := [(0, .ref q_this)]) [0] rfl ?_
      exact H14 f_thrown a_steps h
    · refine z_aload_n X 0 dX12_way_20 rfl rfl ?_
      refine z_iload_n X 1 dX12_way_21 rfl rfl ?_
      obtain ⟨o7, e8, h⟩ := bnd_p h
      refine z_wrV (rest := []) (q0 := 0) (ci := 12) (ws' := [(q_this, .inr (12, [.ref q_s, .ref q_before, .ref q_saved, .int f_isSaved, .ref q_past, .int f_pastMany, .int f_thrown, .int f_reason, .int f_detail, .int f_isRefused, .ref q_steps, .ref q_goes, .int f_goesMany, .int f_roundSteps, .ref q_line, .int f_lineMany, .ref q_text, .int f_length, .int f_at, .int f_isWrong, .int f_errorAt, .ref q_orders, .int f_orderMany])), (q_s, .inl (g 0, 147, .inl a_s)), (q_steps, .inl (g 0, 64, .inl o7))]) (wr := []) (as := [q_this, q_s, q_steps]) X k_X12_tellsWays (c_X12_tellsWays l D g q_this q_s q_before q_saved q_past q_steps q_goes q_line q_text q_orders p1 f_isSaved f_pastMany f_thrown f_reason f_detail f_isRefused f_goesMany f_roundSteps f_lineMany f_length f_at f_isWrong f_errorAt f_orderMany a_s a_steps o7 e8) ql_X12_X12_tellsWays dX12_way_22 [0, 1, 2] [] ⟨rfl, rfl, rfl, rfl, rfl, rfl, rfl, rfl⟩ rfl rfl rfl rfl rfl ⟨Nat.le_of_ble_eq_true rfl, Nat.le_of_ble_eq_true rfl, rfl, rfl, Nat.le_of_ble_eq_true rfl, Nat.le_of_ble_eq_true rfl⟩ (Nat.le_of_ble_eq_true rfl) ?_
      refine z_aload_n X 0 dX12_way_25 rfl rfl ?_
      refine z_aload_n X 0 dX12_way_26 rfl rfl ?_
      refine z_get (q0 := 0) (k := 10) (ci := 12) X IW_P iw_X12 rfl qf_X12_X12_steps (by decide) dX12_way_27 rfl rfl ?_
      refine z_iload_n X 2 dX12_way_30 rfl rfl ?_
      refine z_iald (q0 := 2) X IW_P dX12_way_31 rfl h (fun h => ?_)
      refine z_sipush X (1000 : Int32) dX12_way_32 (by decide) ?_
      refine z_icmp_ne X 42 dX12_way_35 (by decide) h (fun _ h => ?_) (fun _ h => ?_)
      · refine z_iconst X (2 : Int32) dX12_way_38 (by decide) ?_
        refine z_goto X 43 dX12_way_39 (by decide) ?_
        refine z_sub (lv' := [(0, .ref q_this), (2, .int p2)]) [0, 2] rfl ?_
        exact H43 (2 : Int32) f_thrown o7 h
      · refine z_iconst X (0 : Int32) dX12_way_42 (by decide) ?_
        refine z_sub (lv' := [(0, .ref q_this), (2, .int p2)]) [0, 2] rfl ?_
        exact H43 (0 : Int32) f_thrown o7 h

def J_X12_tellsRound_178 (a_s : Nat → Int32) (r27 : Int32 → Int32 → (Int32) → (Int32) → (Nat → Int32) → (Nat → Int32) → Option (Int32 × Int32 × (Nat → Int32) × (Nat → Int32))) (t0 : Int32) (t1 : Int32) (x1 : Int32) (x2 : Int32) (f_goesMany : Int32) (f_roundSteps : Int32) (a_steps : Nat → Int32) (a_goes : Nat → Int32) : Option (Int32 × Int32 × (Nat → Int32) × (Nat → Int32)) :=
  r27 x1 x2 f_goesMany (t1 + t0) a_steps a_goes

def J_X12_tellsRound_148 (a_s : Nat → Int32) (r27 : Int32 → Int32 → (Int32) → (Int32) → (Nat → Int32) → (Nat → Int32) → Option (Int32 × Int32 × (Nat → Int32) × (Nat → Int32))) (r70 : Int32 → Int32 → Int32 → (Int32) → (Int32) → (Nat → Int32) → (Nat → Int32) → Option (Int32 × Int32 × (Nat → Int32) × (Nat → Int32))) (t0 : Int32) (x2 : Int32) (x3 : Int32) (f_goesMany : Int32) (f_roundSteps : Int32) (a_steps : Nat → Int32) (a_goes : Nat → Int32) : Option (Int32 × Int32 × (Nat → Int32) × (Nat → Int32)) :=
  r70 t0 x2 (x3 + 1) f_goesMany f_roundSteps a_steps a_goes

def J_X12_tellsRound_147 (a_s : Nat → Int32) (r27 : Int32 → Int32 → (Int32) → (Int32) → (Nat → Int32) → (Nat → Int32) → Option (Int32 × Int32 × (Nat → Int32) × (Nat → Int32))) (r70 : Int32 → Int32 → Int32 → (Int32) → (Int32) → (Nat → Int32) → (Nat → Int32) → Option (Int32 × Int32 × (Nat → Int32) × (Nat → Int32))) (x1 : Int32) (x2 : Int32) (x3 : Int32) (f_goesMany : Int32) (f_roundSteps : Int32) (a_steps : Nat → Int32) (a_goes : Nat → Int32) : Option (Int32 × Int32 × (Nat → Int32) × (Nat → Int32)) :=
  J_X12_tellsRound_148 a_s (r27) (r70) x1 x2 x3 f_goesMany f_roundSteps a_steps a_goes

def J_X12_tellsRound_143 (a_s : Nat → Int32) (r27 : Int32 → Int32 → (Int32) → (Int32) → (Nat → Int32) → (Nat → Int32) → Option (Int32 × Int32 × (Nat → Int32) × (Nat → Int32))) (r70 : Int32 → Int32 → Int32 → (Int32) → (Int32) → (Nat → Int32) → (Nat → Int32) → Option (Int32 × Int32 × (Nat → Int32) × (Nat → Int32))) (x2 : Int32) (x3 : Int32) (f_goesMany : Int32) (f_roundSteps : Int32) (a_steps : Nat → Int32) (a_goes : Nat → Int32) : Option (Int32 × Int32 × (Nat → Int32) × (Nat → Int32)) :=
  J_X12_tellsRound_148 a_s (r27) (r70) x3 x2 x3 f_goesMany f_roundSteps a_steps a_goes

def J_X12_tellsRound_109 (a_s : Nat → Int32) (r27 : Int32 → Int32 → (Int32) → (Int32) → (Nat → Int32) → (Nat → Int32) → Option (Int32 × Int32 × (Nat → Int32) × (Nat → Int32))) (r70 : Int32 → Int32 → Int32 → (Int32) → (Int32) → (Nat → Int32) → (Nat → Int32) → Option (Int32 × Int32 × (Nat → Int32) × (Nat → Int32))) (t0 : Int32) (x1 : Int32) (x2 : Int32) (x3 : Int32) (f_goesMany : Int32) (f_roundSteps : Int32) (a_steps : Nat → Int32) (a_goes : Nat → Int32) : Option (Int32 × Int32 × (Nat → Int32) × (Nat → Int32)) :=
  brn (t0 = 0) (J_X12_tellsRound_147 a_s (r27) (r70) x1 x2 x3 f_goesMany f_roundSteps a_steps a_goes) (brn (x1 < 0) (J_X12_tellsRound_143 a_s (r27) (r70) x2 x3 f_goesMany f_roundSteps a_steps a_goes) (bnd (F_X12_cellOf x3 a_s) (fun o9 => grd (inb o9 64) (bnd (F_X12_cellOf x1 a_s) (fun o11 => grd (inb o11 64) (brn ((a_steps o11.toNatClampNeg) ≤ (a_steps o9.toNatClampNeg)) (J_X12_tellsRound_147 a_s (r27) (r70) x1 x2 x3 f_goesMany f_roundSteps a_steps a_goes) (J_X12_tellsRound_143 a_s (r27) (r70) x2 x3 f_goesMany f_roundSteps a_steps a_goes)))))))

def J_X12_tellsRound_108 (a_s : Nat → Int32) (r27 : Int32 → Int32 → (Int32) → (Int32) → (Nat → Int32) → (Nat → Int32) → Option (Int32 × Int32 × (Nat → Int32) × (Nat → Int32))) (r70 : Int32 → Int32 → Int32 → (Int32) → (Int32) → (Nat → Int32) → (Nat → Int32) → Option (Int32 × Int32 × (Nat → Int32) × (Nat → Int32))) (x1 : Int32) (x2 : Int32) (x3 : Int32) (f_goesMany : Int32) (f_roundSteps : Int32) (a_steps : Nat → Int32) (a_goes : Nat → Int32) : Option (Int32 × Int32 × (Nat → Int32) × (Nat → Int32)) :=
  J_X12_tellsRound_109 a_s (r27) (r70) (0 : Int32) x1 x2 x3 f_goesMany f_roundSteps a_steps a_goes

def L_X12_tellsRound_70 (a_s : Nat → Int32) (r27 : Int32 → Int32 → (Int32) → (Int32) → (Nat → Int32) → (Nat → Int32) → Option (Int32 × Int32 × (Nat → Int32) × (Nat → Int32))) : Nat → Int32 → Int32 → Int32 → (Int32) → (Int32) → (Nat → Int32) → (Nat → Int32) → Option (Int32 × Int32 × (Nat → Int32) × (Nat → Int32))
  | 0, _, _, _, _, _, _, _ => none
  | _n + 1, x1, x2, x3, f_goesMany, f_roundSteps, a_steps, a_goes =>
    grd (inb (2 : Int32) 147) (brn ((a_s (2 : Int32).toNatClampNeg) ≤ x3) (brn (0 ≤ x1) (bnd (F_X12_cellOf x1 a_s) (fun o5 => grd (inb o5 64) (J_X12_tellsRound_178 a_s (r27) (a_steps o5.toNatClampNeg) f_roundSteps x1 x2 f_goesMany f_roundSteps a_steps a_goes))) (J_X12_tellsRound_178 a_s (r27) (0 : Int32) f_roundSteps x1 x2 f_goesMany f_roundSteps a_steps a_goes)) (brn (((x2 >>> (x3 &&& 31)) &&& (1 : Int32)) = 0) (bnd (F_X12_cellOf x3 a_s) (fun o7 => grd (inb o7 64) (brn ((1000 : Int32) ≤ (a_steps o7.toNatClampNeg)) (J_X12_tellsRound_108 a_s (r27) (L_X12_tellsRound_70 a_s r27 _n) x1 x2 x3 f_goesMany f_roundSteps a_steps a_goes) (J_X12_tellsRound_109 a_s (r27) (L_X12_tellsRound_70 a_s r27 _n) (1 : Int32) x1 x2 x3 f_goesMany f_roundSteps a_steps a_goes)))) (J_X12_tellsRound_108 a_s (r27) (L_X12_tellsRound_70 a_s r27 _n) x1 x2 x3 f_goesMany f_roundSteps a_steps a_goes)))

def L_X12_tellsRound_27 (a_s : Nat → Int32) : Nat → Int32 → Int32 → (Int32) → (Int32) → (Nat → Int32) → (Nat → Int32) → Option (Int32 × Int32 × (Nat → Int32) × (Nat → Int32))
  | 0, _, _, _, _, _, _ => none
  | _n + 1, x1, x2, f_goesMany, f_roundSteps, a_steps, a_goes =>
    brn (x1 < 0) (some (f_goesMany, f_roundSteps, a_steps, a_goes)) (grd (inb f_goesMany 10) (bnd (F_X12_cellOf x1 a_s) (fun o1 => bnd (F_X12_tellsWays o1 a_s a_steps) (fun o3 => L_X12_tellsRound_70 a_s (L_X12_tellsRound_27 a_s _n) 100 ((-1) : Int32) (x2 ||| ((1 : Int32) <<< (x1 &&& 31))) (0 : Int32) (f_goesMany + (1 : Int32)) f_roundSteps o3 (upd a_goes f_goesMany.toNatClampNeg x1)))))

def J_X12_tellsRound_24 (a_s : Nat → Int32) (t0 : Int32) (f_goesMany : Int32) (f_roundSteps : Int32) (a_steps : Nat → Int32) (a_goes : Nat → Int32) : Option (Int32 × Int32 × (Nat → Int32) × (Nat → Int32)) :=
  L_X12_tellsRound_27 a_s 100 t0 (0 : Int32) f_goesMany f_roundSteps a_steps a_goes

def F_X12_tellsRound (a_s : Nat → Int32) (f_goesMany : Int32) (f_roundSteps : Int32) (a_steps : Nat → Int32) (a_goes : Nat → Int32) : Option (Int32 × Int32 × (Nat → Int32) × (Nat → Int32)) :=
  grd (inb (2 : Int32) 147) (brn ((a_s (2 : Int32).toNatClampNeg) ≤ 0) (J_X12_tellsRound_24 a_s ((-1) : Int32) (0 : Int32) (0 : Int32) a_steps a_goes) (J_X12_tellsRound_24 a_s (0 : Int32) (0 : Int32) (0 : Int32) a_steps a_goes))
theorem dX12_tellsRound_0 : decode cX12_tellsRound 0 = .ok (.aload_n 0, 1) := by decide +kernel
theorem dX12_tellsRound_1 : decode cX12_tellsRound 1 = .ok (.iconst 0, 1) := by decide +kernel
theorem dX12_tellsRound_2 : decode cX12_tellsRound 2 = .ok (.putfield 196, 3) := by decide +kernel
theorem dX12_tellsRound_5 : decode cX12_tellsRound 5 = .ok (.aload_n 0, 1) := by decide +kernel
theorem dX12_tellsRound_6 : decode cX12_tellsRound 6 = .ok (.iconst 0, 1) := by decide +kernel
theorem dX12_tellsRound_7 : decode cX12_tellsRound 7 = .ok (.putfield 199, 3) := by decide +kernel
theorem dX12_tellsRound_10 : decode cX12_tellsRound 10 = .ok (.aload_n 0, 1) := by decide +kernel
theorem dX12_tellsRound_11 : decode cX12_tellsRound 11 = .ok (.getfield 9, 3) := by decide +kernel
theorem dX12_tellsRound_14 : decode cX12_tellsRound 14 = .ok (.iconst 2, 1) := by decide +kernel
theorem dX12_tellsRound_15 : decode cX12_tellsRound 15 = .ok (.iaload, 1) := by decide +kernel
theorem dX12_tellsRound_16 : decode cX12_tellsRound 16 = .ok (.ifCond .le 7, 3) := by decide +kernel
theorem dX12_tellsRound_19 : decode cX12_tellsRound 19 = .ok (.iconst 0, 1) := by decide +kernel
theorem dX12_tellsRound_20 : decode cX12_tellsRound 20 = .ok (.goto 4, 3) := by decide +kernel
theorem dX12_tellsRound_23 : decode cX12_tellsRound 23 = .ok (.iconst (-1), 1) := by decide +kernel
theorem dX12_tellsRound_24 : decode cX12_tellsRound 24 = .ok (.istore_n 1, 1) := by decide +kernel
theorem dX12_tellsRound_25 : decode cX12_tellsRound 25 = .ok (.iconst 0, 1) := by decide +kernel
theorem dX12_tellsRound_26 : decode cX12_tellsRound 26 = .ok (.istore_n 2, 1) := by decide +kernel
theorem dX12_tellsRound_27 : decode cX12_tellsRound 27 = .ok (.iload_n 1, 1) := by decide +kernel
theorem dX12_tellsRound_28 : decode cX12_tellsRound 28 = .ok (.ifCond .lt 157, 3) := by decide +kernel
theorem dX12_tellsRound_31 : decode cX12_tellsRound 31 = .ok (.aload_n 0, 1) := by decide +kernel
theorem dX12_tellsRound_32 : decode cX12_tellsRound 32 = .ok (.getfield 25, 3) := by decide +kernel
theorem dX12_tellsRound_35 : decode cX12_tellsRound 35 = .ok (.aload_n 0, 1) := by decide +kernel
theorem dX12_tellsRound_36 : decode cX12_tellsRound 36 = .ok (.getfield 196, 3) := by decide +kernel
theorem dX12_tellsRound_39 : decode cX12_tellsRound 39 = .ok (.iload_n 1, 1) := by decide +kernel
theorem dX12_tellsRound_40 : decode cX12_tellsRound 40 = .ok (.iastore, 1) := by decide +kernel
theorem dX12_tellsRound_41 : decode cX12_tellsRound 41 = .ok (.aload_n 0, 1) := by decide +kernel
theorem dX12_tellsRound_42 : decode cX12_tellsRound 42 = .ok (.dup, 1) := by decide +kernel
theorem dX12_tellsRound_43 : decode cX12_tellsRound 43 = .ok (.getfield 196, 3) := by decide +kernel
theorem dX12_tellsRound_46 : decode cX12_tellsRound 46 = .ok (.iconst 1, 1) := by decide +kernel
theorem dX12_tellsRound_47 : decode cX12_tellsRound 47 = .ok (.iadd, 1) := by decide +kernel
theorem dX12_tellsRound_48 : decode cX12_tellsRound 48 = .ok (.putfield 196, 3) := by decide +kernel
theorem dX12_tellsRound_51 : decode cX12_tellsRound 51 = .ok (.iload_n 2, 1) := by decide +kernel
theorem dX12_tellsRound_52 : decode cX12_tellsRound 52 = .ok (.iconst 1, 1) := by decide +kernel
theorem dX12_tellsRound_53 : decode cX12_tellsRound 53 = .ok (.iload_n 1, 1) := by decide +kernel
theorem dX12_tellsRound_54 : decode cX12_tellsRound 54 = .ok (.ishl, 1) := by decide +kernel
theorem dX12_tellsRound_55 : decode cX12_tellsRound 55 = .ok (.ior, 1) := by decide +kernel
theorem dX12_tellsRound_56 : decode cX12_tellsRound 56 = .ok (.istore_n 2, 1) := by decide +kernel
theorem dX12_tellsRound_57 : decode cX12_tellsRound 57 = .ok (.aload_n 0, 1) := by decide +kernel
theorem dX12_tellsRound_58 : decode cX12_tellsRound 58 = .ok (.aload_n 0, 1) := by decide +kernel
theorem dX12_tellsRound_59 : decode cX12_tellsRound 59 = .ok (.iload_n 1, 1) := by decide +kernel
theorem dX12_tellsRound_60 : decode cX12_tellsRound 60 = .ok (.invokevirtual 72, 3) := by decide +kernel
theorem dX12_tellsRound_63 : decode cX12_tellsRound 63 = .ok (.invokevirtual 192, 3) := by decide +kernel
theorem dX12_tellsRound_66 : decode cX12_tellsRound 66 = .ok (.iconst (-1), 1) := by decide +kernel
theorem dX12_tellsRound_67 : decode cX12_tellsRound 67 = .ok (.istore_n 1, 1) := by decide +kernel
theorem dX12_tellsRound_68 : decode cX12_tellsRound 68 = .ok (.iconst 0, 1) := by decide +kernel
theorem dX12_tellsRound_69 : decode cX12_tellsRound 69 = .ok (.istore_n 3, 1) := by decide +kernel
theorem dX12_tellsRound_70 : decode cX12_tellsRound 70 = .ok (.iload_n 3, 1) := by decide +kernel
theorem dX12_tellsRound_71 : decode cX12_tellsRound 71 = .ok (.aload_n 0, 1) := by decide +kernel
theorem dX12_tellsRound_72 : decode cX12_tellsRound 72 = .ok (.getfield 9, 3) := by decide +kernel
theorem dX12_tellsRound_75 : decode cX12_tellsRound 75 = .ok (.iconst 2, 1) := by decide +kernel
theorem dX12_tellsRound_76 : decode cX12_tellsRound 76 = .ok (.iaload, 1) := by decide +kernel
theorem dX12_tellsRound_77 : decode cX12_tellsRound 77 = .ok (.if_icmp .ge 78, 3) := by decide +kernel
theorem dX12_tellsRound_80 : decode cX12_tellsRound 80 = .ok (.iload_n 2, 1) := by decide +kernel
theorem dX12_tellsRound_81 : decode cX12_tellsRound 81 = .ok (.iload_n 3, 1) := by decide +kernel
theorem dX12_tellsRound_82 : decode cX12_tellsRound 82 = .ok (.ishr, 1) := by decide +kernel
theorem dX12_tellsRound_83 : decode cX12_tellsRound 83 = .ok (.iconst 1, 1) := by decide +kernel
theorem dX12_tellsRound_84 : decode cX12_tellsRound 84 = .ok (.iand, 1) := by decide +kernel
theorem dX12_tellsRound_85 : decode cX12_tellsRound 85 = .ok (.ifCond .ne 23, 3) := by decide +kernel
theorem dX12_tellsRound_88 : decode cX12_tellsRound 88 = .ok (.aload_n 0, 1) := by decide +kernel
theorem dX12_tellsRound_89 : decode cX12_tellsRound 89 = .ok (.getfield 22, 3) := by decide +kernel
theorem dX12_tellsRound_92 : decode cX12_tellsRound 92 = .ok (.aload_n 0, 1) := by decide +kernel
theorem dX12_tellsRound_93 : decode cX12_tellsRound 93 = .ok (.iload_n 3, 1) := by decide +kernel
theorem dX12_tellsRound_94 : decode cX12_tellsRound 94 = .ok (.invokevirtual 72, 3) := by decide +kernel
theorem dX12_tellsRound_97 : decode cX12_tellsRound 97 = .ok (.iaload, 1) := by decide +kernel
theorem dX12_tellsRound_98 : decode cX12_tellsRound 98 = .ok (.sipush 1000, 3) := by decide +kernel
theorem dX12_tellsRound_101 : decode cX12_tellsRound 101 = .ok (.if_icmp .ge 7, 3) := by decide +kernel
theorem dX12_tellsRound_104 : decode cX12_tellsRound 104 = .ok (.iconst 1, 1) := by decide +kernel
theorem dX12_tellsRound_105 : decode cX12_tellsRound 105 = .ok (.goto 4, 3) := by decide +kernel
theorem dX12_tellsRound_108 : decode cX12_tellsRound 108 = .ok (.iconst 0, 1) := by decide +kernel
theorem dX12_tellsRound_109 : decode cX12_tellsRound 109 = .ok (.istore 4, 2) := by decide +kernel
theorem dX12_tellsRound_111 : decode cX12_tellsRound 111 = .ok (.iload 4, 2) := by decide +kernel
theorem dX12_tellsRound_113 : decode cX12_tellsRound 113 = .ok (.ifCond .eq 34, 3) := by decide +kernel
theorem dX12_tellsRound_116 : decode cX12_tellsRound 116 = .ok (.iload_n 1, 1) := by decide +kernel
theorem dX12_tellsRound_117 : decode cX12_tellsRound 117 = .ok (.ifCond .lt 26, 3) := by decide +kernel
theorem dX12_tellsRound_120 : decode cX12_tellsRound 120 = .ok (.aload_n 0, 1) := by decide +kernel
theorem dX12_tellsRound_121 : decode cX12_tellsRound 121 = .ok (.getfield 22, 3) := by decide +kernel
theorem dX12_tellsRound_124 : decode cX12_tellsRound 124 = .ok (.aload_n 0, 1) := by decide +kernel
theorem dX12_tellsRound_125 : decode cX12_tellsRound 125 = .ok (.iload_n 3, 1) := by decide +kernel
theorem dX12_tellsRound_126 : decode cX12_tellsRound 126 = .ok (.invokevirtual 72, 3) := by decide +kernel
theorem dX12_tellsRound_129 : decode cX12_tellsRound 129 = .ok (.iaload, 1) := by decide +kernel
theorem dX12_tellsRound_130 : decode cX12_tellsRound 130 = .ok (.aload_n 0, 1) := by decide +kernel
theorem dX12_tellsRound_131 : decode cX12_tellsRound 131 = .ok (.getfield 22, 3) := by decide +kernel
theorem dX12_tellsRound_134 : decode cX12_tellsRound 134 = .ok (.aload_n 0, 1) := by decide +kernel
theorem dX12_tellsRound_135 : decode cX12_tellsRound 135 = .ok (.iload_n 1, 1) := by decide +kernel
theorem dX12_tellsRound_136 : decode cX12_tellsRound 136 = .ok (.invokevirtual 72, 3) := by decide +kernel
theorem dX12_tellsRound_139 : decode cX12_tellsRound 139 = .ok (.iaload, 1) := by decide +kernel
theorem dX12_tellsRound_140 : decode cX12_tellsRound 140 = .ok (.if_icmp .ge 7, 3) := by decide +kernel
theorem dX12_tellsRound_143 : decode cX12_tellsRound 143 = .ok (.iload_n 3, 1) := by decide +kernel
theorem dX12_tellsRound_144 : decode cX12_tellsRound 144 = .ok (.goto 4, 3) := by decide +kernel
theorem dX12_tellsRound_147 : decode cX12_tellsRound 147 = .ok (.iload_n 1, 1) := by decide +kernel
theorem dX12_tellsRound_148 : decode cX12_tellsRound 148 = .ok (.istore_n 1, 1) := by decide +kernel
theorem dX12_tellsRound_149 : decode cX12_tellsRound 149 = .ok (.iinc 3 1, 3) := by decide +kernel
theorem dX12_tellsRound_152 : decode cX12_tellsRound 152 = .ok (.goto (-82), 3) := by decide +kernel
theorem dX12_tellsRound_155 : decode cX12_tellsRound 155 = .ok (.aload_n 0, 1) := by decide +kernel
theorem dX12_tellsRound_156 : decode cX12_tellsRound 156 = .ok (.dup, 1) := by decide +kernel
theorem dX12_tellsRound_157 : decode cX12_tellsRound 157 = .ok (.getfield 199, 3) := by decide +kernel
theorem dX12_tellsRound_160 : decode cX12_tellsRound 160 = .ok (.iload_n 1, 1) := by decide +kernel
theorem dX12_tellsRound_161 : decode cX12_tellsRound 161 = .ok (.ifCond .ge 7, 3) := by decide +kernel
theorem dX12_tellsRound_164 : decode cX12_tellsRound 164 = .ok (.iconst 0, 1) := by decide +kernel
theorem dX12_tellsRound_165 : decode cX12_tellsRound 165 = .ok (.goto 13, 3) := by decide +kernel
theorem dX12_tellsRound_168 : decode cX12_tellsRound 168 = .ok (.aload_n 0, 1) := by decide +kernel
theorem dX12_tellsRound_169 : decode cX12_tellsRound 169 = .ok (.getfield 22, 3) := by decide +kernel
theorem dX12_tellsRound_172 : decode cX12_tellsRound 172 = .ok (.aload_n 0, 1) := by decide +kernel
theorem dX12_tellsRound_173 : decode cX12_tellsRound 173 = .ok (.iload_n 1, 1) := by decide +kernel
theorem dX12_tellsRound_174 : decode cX12_tellsRound 174 = .ok (.invokevirtual 72, 3) := by decide +kernel
theorem dX12_tellsRound_177 : decode cX12_tellsRound 177 = .ok (.iaload, 1) := by decide +kernel
theorem dX12_tellsRound_178 : decode cX12_tellsRound 178 = .ok (.iadd, 1) := by decide +kernel
theorem dX12_tellsRound_179 : decode cX12_tellsRound 179 = .ok (.putfield 199, 3) := by decide +kernel
theorem dX12_tellsRound_182 : decode cX12_tellsRound 182 = .ok (.goto (-155), 3) := by decide +kernel
theorem dX12_tellsRound_185 : decode cX12_tellsRound 185 = .ok (.return_, 1) := by decide +kernel
theorem k_X12_tellsRound : cardV yX12_tellsRound (Cond.code yX12_tellsRound cX12_tellsRound 5 none) 0 := ⟨⟨qi_X12_tellsRound, qv_X12_tellsRound⟩, qc_X12_tellsRound, qn_X12, by decide +kernel, by decide +kernel, by decide +kernel⟩
set_option maxHeartbeats 4000000 in
set_option maxRecDepth 100000 in
theorem c_X12_tellsRound (l : Launch) (D : va_G) (g : Nat → ClassId) (q_this q_s q_before q_saved q_past q_steps q_goes q_line q_text q_orders : Nat) (f_isSaved : Int32) (f_pastMany : Int32) (f_thrown : Int32) (f_reason : Int32) (f_detail : Int32) (f_isRefused : Int32) (f_goesMany : Int32) (f_roundSteps : Int32) (f_lineMany : Int32) (f_length : Int32) (f_at : Int32) (f_isWrong : Int32) (f_errorAt : Int32) (f_orderMany : Int32) (a_s : Nat → Int32) (a_steps : Nat → Int32) (a_goes : Nat → Int32) (o : Int32 × Int32 × (Nat → Int32) × (Nat → Int32)) (h : F_X12_tellsRound a_s f_goesMany f_roundSteps a_steps a_goes = some o) : MW l yX12_tellsRound (Cond.code yX12_tellsRound cX12_tellsRound 5 none) { frames := 3, cells := 0, slots := 0, locals := 86 } D g [.ref q_this] [(q_this, .inr (12, [.ref q_s, .ref q_before, .ref q_saved, .int f_isSaved, .ref q_past, .int f_pastMany, .int f_thrown, .int f_reason, .int f_detail, .int f_isRefused, .ref q_steps, .ref q_goes, .int f_goesMany, .int f_roundSteps, .ref q_line, .int f_lineMany, .ref q_text, .int f_length, .int f_at, .int f_isWrong, .int f_errorAt, .ref q_orders, .int f_orderMany])), (q_s, .inl (g 0, 147, .inl a_s)), (q_steps, .inl (g 0, 64, .inl a_steps)), (q_goes, .inl (g 0, 10, .inl a_goes))] none [(q_this, .inr (12, [.ref q_s, .ref q_before, .ref q_saved, .int f_isSaved, .ref q_past, .int f_pastMany, .int f_thrown, .int f_reason, .int f_detail, .int f_isRefused, .ref q_steps, .ref q_goes, .int o.1, .int o.2.1, .ref q_line, .int f_lineMany, .ref q_text, .int f_length, .int f_at, .int f_isWrong, .int f_errorAt, .ref q_orders, .int f_orderMany])), (q_s, .inl (g 0, 147, .inl a_s)), (q_steps, .inl (g 0, 64, .inl o.2.2.1)), (q_goes, .inl (g 0, 10, .inl o.2.2.2))] := by
  refine z_wr_start (by decide) (Nat.le_of_ble_eq_true rfl) ?_
  intro p e s m args below meth c Q A X hr hQ hA
  refine z_lv (lv' := [(0, .ref q_this)]) rfl ?_
  have H27 : ∀ (n : Nat) (x1 : Int32) (x2 : Int32) (f_goesMany : Int32) (f_roundSteps : Int32) (a_steps : Nat → Int32) (a_goes : Nat → Int32), L_X12_tellsRound_27 a_s  n x1 x2 f_goesMany f_roundSteps a_steps a_goes = some o → Z p l e { frames := 3, cells := 0, slots := 0, locals := 86 } s m args below meth c Q 5 0 0 (IW D A s [(q_this, .inr (12, [.ref q_s, .ref q_before, .ref q_saved, .int f_isSaved, .ref q_past, .int f_pastMany, .int f_thrown, .int f_reason, .int f_detail, .int f_isRefused, .ref q_steps, .ref q_goes, .int f_goesMany, .int f_roundSteps, .ref q_line, .int f_lineMany, .ref q_text, .int f_length, .int f_at, .int f_isWrong, .int f_errorAt, .ref q_orders, .int f_orderMany])), (q_s, .inl (g 0, 147, .inl a_s)), (q_steps, .inl (g 0, 64, .inl a_steps)), (q_goes, .inl (g 0, 10, .inl a_goes))]) 27 [(0, .ref q_this), (1, .int x1), (2, .int x2)] [] := by
    intro n
    induction n with
    | zero => intro x1 x2 f_goesMany f_roundSteps a_steps a_goes h; cases h
    | succ n27 ih27 =>
      intro x1 x2 f_goesMany f_roundSteps a_steps a_goes h
      have H178 : ∀ (t0 : Int32) (t1 : Int32) (x1 : Int32) (x2 : Int32) (f_goesMany : Int32) (f_roundSteps : Int32) (a_steps : Nat → Int32) (a_goes : Nat → Int32), J_X12_tellsRound_178 a_s (L_X12_tellsRound_27 a_s n27) t0 t1 x1 x2 f_goesMany f_roundSteps a_steps a_goes = some o → Z p l e { frames := 3, cells := 0, slots := 0, locals := 86 } s m args below meth c Q 5 0 0 (IW D A s [(q_this, .inr (12, [.ref q_s, .ref q_before, .ref q_saved, .int f_isSaved, .ref q_past, .int f_pastMany, .int f_thrown, .int f_reason, .int f_detail, .int f_isRefused, .ref q_steps, .ref q_goes, .int f_goesMany, .int f_roundSteps, .ref q_line, .int f_lineMany, .ref q_text, .int f_length, .int f_at, .int f_isWrong, .int f_errorAt, .ref q_orders, .int f_orderMany])), (q_s, .inl (g 0, 147, .inl a_s)), (q_steps, .inl (g 0, 64, .inl a_steps)), (q_goes, .inl (g 0, 10, .inl a_goes))]) 178 [(0, .ref q_this), (1, .int x1), (2, .int x2)] [.int t0, .int t1, .ref q_this] := by
        intro t0 t1 x1 x2 f_goesMany f_roundSteps a_steps a_goes h
        refine z_iadd X dX12_tellsRound_178 ?_
        refine z_put (q0 := 0) (k := 13) (ci := 12) (ws' := [(q_this, .inr (12, [.ref q_s, .ref q_before, .ref q_saved, .int f_isSaved, .ref q_past, .int f_pastMany, .int f_thrown, .int f_reason, .int f_detail, .int f_isRefused, .ref q_steps, .ref q_goes, .int f_goesMany, .int (t1 + t0), .ref q_line, .int f_lineMany, .ref q_text, .int f_length, .int f_at, .int f_isWrong, .int f_errorAt, .ref q_orders, .int f_orderMany])), (q_s, .inl (g 0, 147, .inl a_s)), (q_steps, .inl (g 0, 64, .inl a_steps)), (q_goes, .inl (g 0, 10, .inl a_goes))]) X iw_X12 tyX12_ok nmX12 rfl qf_X12_X12_roundSteps (by decide) rfl rfl dX12_tellsRound_179 rfl rfl rfl (Nat.le_of_ble_eq_true rfl) rfl ?_
        refine z_goto X 27 dX12_tellsRound_182 (by decide) ?_
        exact ih27 x1 x2 f_goesMany (t1 + t0) a_steps a_goes h
      have H70 : ∀ (n : Nat) (x1 : Int32) (x2 : Int32) (x3 : Int32) (f_goesMany : Int32) (f_roundSteps : Int32) (a_steps : Nat → Int32) (a_goes : Nat → Int32), L_X12_tellsRound_70 a_s (L_X12_tellsRound_27 a_s n27) n x1 x2 x3 f_goesMany f_roundSteps a_steps a_goes = some o → Z p l e { frames := 3, cells := 0, slots := 0, locals := 86 } s m args below meth c Q 5 0 0 (IW D A s [(q_this, .inr (12, [.ref q_s, .ref q_before, .ref q_saved, .int f_isSaved, .ref q_past, .int f_pastMany, .int f_thrown, .int f_reason, .int f_detail, .int f_isRefused, .ref q_steps, .ref q_goes, .int f_goesMany, .int f_roundSteps, .ref q_line, .int f_lineMany, .ref q_text, .int f_length, .int f_at, .int f_isWrong, .int f_errorAt, .ref q_orders, .int f_orderMany])), (q_s, .inl (g 0, 147, .inl a_s)), (q_steps, .inl (g 0, 64, .inl a_steps)), (q_goes, .inl (g 0, 10, .inl a_goes))]) 70 [(0, .ref q_this), (1, .int x1), (2, .int x2), (3, .int x3)] [] := by
        intro n
        induction n with
        | zero => intro x1 x2 x3 f_goesMany f_roundSteps a_steps a_goes h; cases h
        | succ n70 ih70 =>
          intro x1 x2 x3 f_goesMany f_roundSteps a_steps a_goes h
          have H148 : ∀ (t0 : Int32) (x2 : Int32) (x3 : Int32) (f_goesMany : Int32) (f_roundSteps : Int32) (a_steps : Nat → Int32) (a_goes : Nat → Int32), J_X12_tellsRound_148 a_s (L_X12_tellsRound_27 a_s n27) (L_X12_tellsRound_70 a_s (L_X12_tellsRound_27 a_s n27) n70) t0 x2 x3 f_goesMany f_roundSteps a_steps a_goes = some o → Z p l e { frames := 3, cells := 0, slots := 0, locals := 86 } s m args below meth c Q 5 0 0 (IW D A s [(q_this, .inr (12, [.ref q_s, .ref q_before, .ref q_saved, .int f_isSaved, .ref q_past, .int f_pastMany, .int f_thrown, .int f_reason, .int f_detail, .int f_isRefused, .ref q_steps, .ref q_goes, .int f_goesMany, .int f_roundSteps, .ref q_line, .int f_lineMany, .ref q_text, .int f_length, .int f_at, .int f_isWrong, .int f_errorAt, .ref q_orders, .int f_orderMany])), (q_s, .inl (g 0, 147, .inl a_s)), (q_steps, .inl (g 0, 64, .inl a_steps)), (q_goes, .inl (g 0, 10, .inl a_goes))]) 148 [(0, .ref q_this), (2, .int x2), (3, .int x3)] [.int t0] := by
            intro t0 x2 x3 f_goesMany f_roundSteps a_steps a_goes h
            refine z_istore_n X [(1, .int t0), (0, .ref q_this), (2, .int x2), (3, .int x3)] dX12_tellsRound_148 rfl (by decide) rfl ?_
            refine z_iinc X 3 [(3, .int (x3 + 1)), (1, .int t0), (0, .ref q_this), (2, .int x2)] dX12_tellsRound_149 rfl rfl (by decide) rfl ?_
            refine z_goto X 70 dX12_tellsRound_152 (by decide) ?_
            refine z_sub (lv' := [(0, .ref q_this), (1, .int t0), (2, .int x2), (3, .int (x3 + 1))]) [2, 1, 3, 0] rfl ?_
            exact ih70 t0 x2 (x3 + 1) f_goesMany f_roundSteps a_steps a_goes h
          have H147 : ∀ (x1 : Int32) (x2 : Int32) (x3 : Int32) (f_goesMany : Int32) (f_roundSteps : Int32) (a_steps : Nat → Int32) (a_goes : Nat → Int32), J_X12_tellsRound_147 a_s (L_X12_tellsRound_27 a_s n27) (L_X12_tellsRound_70 a_s (L_X12_tellsRound_27 a_s n27) n70) x1 x2 x3 f_goesMany f_roundSteps a_steps a_goes = some o → Z p l e { frames := 3, cells := 0, slots := 0, locals := 86 } s m args below meth c Q 5 0 0 (IW D A s [(q_this, .inr (12, [.ref q_s, .ref q_before, .ref q_saved, .int f_isSaved, .ref q_past, .int f_pastMany, .int f_thrown, .int f_reason, .int f_detail, .int f_isRefused, .ref q_steps, .ref q_goes, .int f_goesMany, .int f_roundSteps, .ref q_line, .int f_lineMany, .ref q_text, .int f_length, .int f_at, .int f_isWrong, .int f_errorAt, .ref q_orders, .int f_orderMany])), (q_s, .inl (g 0, 147, .inl a_s)), (q_steps, .inl (g 0, 64, .inl a_steps)), (q_goes, .inl (g 0, 10, .inl a_goes))]) 147 [(0, .ref q_this), (1, .int x1), (2, .int x2), (3, .int x3)] [] := by
            intro x1 x2 x3 f_goesMany f_roundSteps a_steps a_goes h
            refine z_iload_n X 1 dX12_tellsRound_147 rfl rfl ?_
            refine z_sub (lv' := [(0, .ref q_this), (2, .int x2), (3, .int x3)]) [0, 2, 3] rfl ?_
            exact H148 x1 x2 x3 f_goesMany f_roundSteps a_steps a_goes h
          have H143 : ∀ (x2 : Int32) (x3 : Int32) (f_goesMany : Int32) (f_roundSteps : Int32) (a_steps : Nat → Int32) (a_goes : Nat → Int32), J_X12_tellsRound_143 a_s (L_X12_tellsRound_27 a_s n27) (L_X12_tellsRound_70 a_s (L_X12_tellsRound_27 a_s n27) n70) x2 x3 f_goesMany f_roundSteps a_steps a_goes = some o → Z p l e { frames := 3, cells := 0, slots := 0, locals := 86 } s m args below meth c Q 5 0 0 (IW D A s [(q_this, .inr (12, [.ref q_s, .ref q_before, .ref q_saved, .int f_isSaved, .ref q_past, .int f_pastMany, .int f_thrown, .int f_reason, .int f_detail, .int f_isRefused, .ref q_steps, .ref q_goes, .int f_goesMany, .int f_roundSteps, .ref q_line, .int f_lineMany, .ref q_text, .int f_length, .int f_at, .int f_isWrong, .int f_errorAt, .ref q_orders, .int f_orderMany])), (q_s, .inl (g 0, 147, .inl a_s)), (q_steps, .inl (g 0, 64, .inl a_steps)), (q_goes, .inl (g 0, 10, .inl a_goes))]) 143 [(0, .ref q_this), (2, .int x2), (3, .int x3)] [] := by
            intro x2 x3 f_goesMany f_roundSteps a_steps a_goes h
            refine z_iload_n X 2 dX12_tellsRound_143 rfl rfl ?_
            refine z_goto X 148 dX12_tellsRound_144 (by decide) ?_
            exact H148 x3 x2 x3 f_goesMany f_roundSteps a_steps a_goes h
          have H109 : ∀ (t0 : Int32) (x1 : Int32) (x2 : Int32) (x3 : Int32) (f_goesMany : Int32) (f_roundSteps : Int32) (a_steps : Nat → Int32) (a_goes : Nat → Int32), J_X12_tellsRound_109 a_s (L_X12_tellsRound_27 a_s n27) (L_X12_tellsRound_70 a_s (L_X12_tellsRound_27 a_s n27) n70) t0 x1 x2 x3 f_goesMany f_roundSteps a_steps a_goes = some o → Z p l e { frames := 3, cells := 0, slots := 0, locals := 86 } s m args below meth c Q 5 0 0 (IW D A s [(q_this, .inr (12, [.ref q_s, .ref q_before, .ref q_saved, .int f_isSaved, .ref q_past, .int f_pastMany, .int f_thrown, .int f_reason, .int f_detail, .int f_isRefused, .ref q_steps, .ref q_goes, .int f_goesMany, .int f_roundSteps, .ref q_line, .int f_lineMany, .ref q_text, .int f_length, .int f_at, .int f_isWrong, .int f_errorAt, .ref q_orders, .int f_orderMany])), (q_s, .inl (g 0, 147, .inl a_s)), (q_steps, .inl (g 0, 64, .inl a_steps)), (q_goes, .inl (g 0, 10, .inl a_goes))]) 109 [(0, .ref q_this), (1, .int x1), (2, .int x2), (3, .int x3)] [.int t0] := by
            intro t0 x1 x2 x3 f_goesMany f_roundSteps a_steps a_goes h
            refine z_istore X [(4, .int t0), (0, .ref q_this), (1, .int x1), (2, .int x2), (3, .int x3)] dX12_tellsRound_109 (by decide) rfl ?_
            refine z_iload X 0 dX12_tellsRound_111 rfl ?_
            refine z_if_eq X 147 dX12_tellsRound_113 (by decide) h (fun _ h => ?_) (fun _ h => ?_)
            · refine z_sub (lv' := [(0, .ref q_this), (1, .int x1), (2, .int x2), (3, .int x3)]) [1, 2, 3, 4] rfl ?_
              exact H147 x1 x2 x3 f_goesMany f_roundSteps a_steps a_goes h
            · refine z_iload_n X 2 dX12_tellsRound_116 rfl rfl ?_
              refine z_if_lt X 143 dX12_tellsRound_117 (by decide) h (fun _ h => ?_) (fun _ h => ?_)
              · refine z_sub (lv' := [(0, .ref q_this), (2, .int x2), (3, .int x3)]) [1, 3, 4] rfl ?_
                exact H143 x2 x3 f_goesMany f_roundSteps a_steps a_goes h
              · refine z_aload_n X 1 dX12_tellsRound_120 rfl rfl ?_
                refine z_get (q0 := 0) (k := 10) (ci := 12) X IW_P iw_X12 rfl qf_X12_X12_steps (by decide) dX12_tellsRound_121 rfl rfl ?_
                refine z_aload_n X 1 dX12_tellsRound_124 rfl rfl ?_
                refine z_iload_n X 4 dX12_tellsRound_125 rfl rfl ?_
                obtain ⟨o9, e10, h⟩ := bnd_p h
                refine z_rdV (rest := [.ref q_steps]) (q0 := 0) (ci := 12) X IW_P k_X12_cellOf (c_X12_cellOf l D g q_this q_s q_before q_saved q_past q_steps q_goes q_line q_text q_orders x3 f_isSaved f_pastMany f_thrown f_reason f_detail f_isRefused f_goesMany f_roundSteps f_lineMany f_length f_at f_isWrong f_errorAt f_orderMany a_s o9 e10) ql_X12_X12_cellOf dX12_tellsRound_126 [0, 1] rfl rfl rfl rfl rfl rfl ⟨Nat.le_of_ble_eq_true rfl, Nat.le_of_ble_eq_true rfl, rfl, rfl, Nat.le_of_ble_eq_true rfl, Nat.le_of_ble_eq_true rfl⟩ (Nat.le_of_ble_eq_true rfl) ?_
                refine z_iald (q0 := 2) X IW_P dX12_tellsRound_129 rfl h (fun h => ?_)
                refine z_aload_n X 1 dX12_tellsRound_130 rfl rfl ?_
                refine z_get (q0 := 0) (k := 10) (ci := 12) X IW_P iw_X12 rfl qf_X12_X12_steps (by decide) dX12_tellsRound_131 rfl rfl ?_
                refine z_aload_n X 1 dX12_tellsRound_134 rfl rfl ?_
                refine z_iload_n X 2 dX12_tellsRound_135 rfl rfl ?_
                obtain ⟨o11, e12, h⟩ := bnd_p h
                refine z_rdV (rest := [.ref q_steps, .int (a_steps o9.toNatClampNeg)]) (q0 := 0) (ci := 12) X IW_P k_X12_cellOf (c_X12_cellOf l D g q_this q_s q_before q_saved q_past q_steps q_goes q_line q_text q_orders x1 f_isSaved f_pastMany f_thrown f_reason f_detail f_isRefused f_goesMany f_roundSteps f_lineMany f_length f_at f_isWrong f_errorAt f_orderMany a_s o11 e12) ql_X12_X12_cellOf dX12_tellsRound_136 [0, 1] rfl rfl rfl rfl rfl rfl ⟨Nat.le_of_ble_eq_true rfl, Nat.le_of_ble_eq_true rfl, rfl, rfl, Nat.le_of_ble_eq_true rfl, Nat.le_of_ble_eq_true rfl⟩ (Nat.le_of_ble_eq_true rfl) ?_
                refine z_iald (q0 := 2) X IW_P dX12_tellsRound_139 rfl h (fun h => ?_)
                refine z_icmp_ge X 147 dX12_tellsRound_140 (by decide) h (fun _ h => ?_) (fun _ h => ?_)
                · refine z_sub (lv' := [(0, .ref q_this), (1, .int x1), (2, .int x2), (3, .int x3)]) [1, 2, 3, 4] rfl ?_
                  exact H147 x1 x2 x3 f_goesMany f_roundSteps a_steps a_goes h
                · refine z_sub (lv' := [(0, .ref q_this), (2, .int x2), (3, .int x3)]) [1, 3, 4] rfl ?_
                  exact H143 x2 x3 f_goesMany f_roundSteps a_steps a_goes h
          have H108 : ∀ (x1 : Int32) (x2 : Int32) (x3 : Int32) (f_goesMany : Int32) (f_roundSteps : Int32) (a_steps : Nat → Int32) (a_goes : Nat → Int32), J_X12_tellsRound_108 a_s (L_X12_tellsRound_27 a_s n27) (L_X12_tellsRound_70 a_s (L_X12_tellsRound_27 a_s n27) n70) x1 x2 x3 f_goesMany f_roundSteps a_steps a_goes = some o → Z p l e { frames := 3, cells := 0, slots := 0, locals := 86 } s m args below meth c Q 5 0 0 (IW D A s [(q_this, .inr (12, [.ref q_s, .ref q_before, .ref q_saved, .int f_isSaved, .ref q_past, .int f_pastMany, .int f_thrown, .int f_reason, .int f_detail, .int f_isRefused, .ref q_steps, .ref q_goes, .int f_goesMany, .int f_roundSteps, .ref q_line, .int f_lineMany, .ref q_text, .int f_length, .int f_at, .int f_isWrong, .int f_errorAt, .ref q_orders, .int f_orderMany])), (q_s, .inl (g 0, 147, .inl a_s)), (q_steps, .inl (g 0, 64, .inl a_steps)), (q_goes, .inl (g 0, 10, .inl a_goes))]) 108 [(0, .ref q_this), (1, .int x1), (2, .int x2), (3, .int x3)] [] := by
            intro x1 x2 x3 f_goesMany f_roundSteps a_steps a_goes h
            refine z_iconst X (0 : Int32) dX12_tellsRound_108 (by decide) ?_
            exact H109 (0 : Int32) x1 x2 x3 f_goesMany f_roundSteps a_steps a_goes h
          refine z_iload_n X 3 dX12_tellsRound_70 rfl rfl ?_
          refine z_aload_n X 0 dX12_tellsRound_71 rfl rfl ?_
          refine z_get (q0 := 0) (k := 0) (ci := 12) X IW_P iw_X12 rfl qf_X12_X12_s (by decide) dX12_tellsRound_72 rfl rfl ?_
          refine z_iconst X (2 : Int32) dX12_tellsRound_75 (by decide) ?_
          refine z_iald (q0 := 1) X IW_P dX12_tellsRound_76 rfl h (fun h => ?_)
          refine z_icmp_ge X 155 dX12_tellsRound_77 (by decide) h (fun _ h => ?_) (fun _ h => ?_)
          · refine z_aload_n X 0 dX12_tellsRound_155 rfl rfl ?_
            refine z_dup X dX12_tellsRound_156 rfl ?_
            refine z_get (q0 := 0) (k := 13) (ci := 12) X IW_P iw_X12 rfl qf_X12_X12_roundSteps (by decide) dX12_tellsRound_157 rfl rfl ?_
            refine z_iload_n X 1 dX12_tellsRound_160 rfl rfl ?_
            refine z_if_ge X 168 dX12_tellsRound_161 (by decide) h (fun _ h => ?_) (fun _ h => ?_)
            · refine z_aload_n X 0 dX12_tellsRound_168 rfl rfl ?_
              refine z_get (q0 := 0) (k := 10) (ci := 12) X IW_P iw_X12 rfl qf_X12_X12_steps (by decide) dX12_tellsRound_169 rfl rfl ?_
              refine z_aload_n X 0 dX12_tellsRound_172 rfl rfl ?_
              refine z_iload_n X 1 dX12_tellsRound_173 rfl rfl ?_
              obtain ⟨o5, e6, h⟩ := bnd_p h
              refine z_rdV (rest := [.ref q_steps, .int f_roundSteps, .ref q_this]) (q0 := 0) (ci := 12) X IW_P k_X12_cellOf (c_X12_cellOf l D g q_this q_s q_before q_saved q_past q_steps q_goes q_line q_text q_orders x1 f_isSaved f_pastMany f_thrown f_reason f_detail f_isRefused f_goesMany f_roundSteps f_lineMany f_length f_at f_isWrong f_errorAt f_orderMany a_s o5 e6) ql_X12_X12_cellOf dX12_tellsRound_174 [0, 1] rfl rfl rfl rfl rfl rfl ⟨Nat.le_of_ble_eq_true rfl, Nat.le_of_ble_eq_true rfl, rfl, rfl, Nat.le_of_ble_eq_true rfl, Nat.le_of_ble_eq_true rfl⟩ (Nat.le_of_ble_eq_true rfl) ?_
              refine z_iald (q0 := 2) X IW_P dX12_tellsRound_177 rfl h (fun h => ?_)
              refine z_sub (lv' := [(0, .ref q_this), (1, .int x1), (2, .int x2)]) [0, 1, 2] rfl ?_
              exact H178 (a_steps o5.toNatClampNeg) f_roundSteps x1 x2 f_goesMany f_roundSteps a_steps a_goes h
            · refine z_iconst X (0 : Int32) dX12_tellsRound_164 (by decide) ?_
              refine z_goto X 178 dX12_tellsRound_165 (by decide) ?_
              refine z_sub (lv' := [(0, .ref q_this), (1, .int x1), (2, .int x2)]) [0, 1, 2] rfl ?_
              exact H178 (0 : Int32) f_roundSteps x1 x2 f_goesMany f_roundSteps a_steps a_goes h
          · refine z_iload_n X 2 dX12_tellsRound_80 rfl rfl ?_
            refine z_iload_n X 3 dX12_tellsRound_81 rfl rfl ?_
            refine z_ishr X dX12_tellsRound_82 ?_
            refine z_iconst X (1 : Int32) dX12_tellsRound_83 (by decide) ?_
            refine z_iand X dX12_tellsRound_84 ?_
            refine z_if_ne X 108 dX12_tellsRound_85 (by decide) h (fun _ h => ?_) (fun _ h => ?_)
            · refine z_aload_n X 0 dX12_tellsRound_88 rfl rfl ?_
              refine z_get (q0 := 0) (k := 10) (ci := 12) X IW_P iw_X12 rfl qf_X12_X12_steps (by decide) dX12_tellsRound_89 rfl rfl ?_
              refine z_aload_n X 0 dX12_tellsRound_92 rfl rfl ?_
              refine z_iload_n X 3 dX12_tellsRound_93 rfl rfl ?_
              obtain ⟨o7, e8, h⟩ := bnd_p h
              refine z_rdV (rest := [.ref q_steps]) (q0 := 0) (ci := 12) X IW_P k_X12_cellOf (c_X12_cellOf l D g q_this q_s q_before q_saved q_past q_steps q_goes q_line q_text q_orders x3 f_isSaved f_pastMany f_thrown f_reason f_detail f_isRefused f_goesMany f_roundSteps f_lineMany f_length f_at f_isWrong f_errorAt f_orderMany a_s o7 e8) ql_X12_X12_cellOf dX12_tellsRound_94 [0, 1] rfl rfl rfl rfl rfl rfl ⟨Nat.le_of_ble_eq_true rfl, Nat.le_of_ble_eq_true rfl, rfl, rfl, Nat.le_of_ble_eq_true rfl, Nat.le_of_ble_eq_true rfl⟩ (Nat.le_of_ble_eq_true rfl) ?_
              refine z_iald (q0 := 2) X IW_P dX12_tellsRound_97 rfl h (fun h => ?_)
              refine z_sipush X (1000 : Int32) dX12_tellsRound_98 (by decide) ?_
              refine z_icmp_ge X 108 dX12_tellsRound_101 (by decide) h (fun _ h => ?_) (fun _ h => ?_)
              · exact H108 x1 x2 x3 f_goesMany f_roundSteps a_steps a_goes h
              · refine z_iconst X (1 : Int32) dX12_tellsRound_104 (by decide) ?_
                refine z_goto X 109 dX12_tellsRound_105 (by decide) ?_
                exact H109 (1 : Int32) x1 x2 x3 f_goesMany f_roundSteps a_steps a_goes h
            · exact H108 x1 x2 x3 f_goesMany f_roundSteps a_steps a_goes h
      refine z_iload_n X 1 dX12_tellsRound_27 rfl rfl ?_
      refine z_if_lt X 185 dX12_tellsRound_28 (by decide) h (fun _ h => ?_) (fun _ h => ?_)
      · cases h
        exact z_vretW X hQ hA hr dX12_tellsRound_185
      · refine z_aload_n X 0 dX12_tellsRound_31 rfl rfl ?_
        refine z_get (q0 := 0) (k := 11) (ci := 12) X IW_P iw_X12 rfl qf_X12_X12_goes (by decide) dX12_tellsRound_32 rfl rfl ?_
        refine z_aload_n X 0 dX12_tellsRound_35 rfl rfl ?_
        refine z_get (q0 := 0) (k := 12) (ci := 12) X IW_P iw_X12 rfl qf_X12_X12_goesMany (by decide) dX12_tellsRound_36 rfl rfl ?_
        refine z_iload_n X 1 dX12_tellsRound_39 rfl rfl ?_
        refine z_iast (q0 := 3) (ws' := [(q_this, .inr (12, [.ref q_s, .ref q_before, .ref q_saved, .int f_isSaved, .ref q_past, .int f_pastMany, .int f_thrown, .int f_reason, .int f_detail, .int f_isRefused, .ref q_steps, .ref q_goes, .int f_goesMany, .int f_roundSteps, .ref q_line, .int f_lineMany, .ref q_text, .int f_length, .int f_at, .int f_isWrong, .int f_errorAt, .ref q_orders, .int f_orderMany])), (q_s, .inl (g 0, 147, .inl a_s)), (q_steps, .inl (g 0, 64, .inl a_steps)), (q_goes, .inl (g 0, 10, .inl (upd a_goes f_goesMany.toNatClampNeg x1)))]) X dX12_tellsRound_40 rfl h rfl (fun h => ?_)
        refine z_aload_n X 0 dX12_tellsRound_41 rfl rfl ?_
        refine z_dup X dX12_tellsRound_42 rfl ?_
        refine z_get (q0 := 0) (k := 12) (ci := 12) X IW_P iw_X12 rfl qf_X12_X12_goesMany (by decide) dX12_tellsRound_43 rfl rfl ?_
        refine z_iconst X (1 : Int32) dX12_tellsRound_46 (by decide) ?_
        refine z_iadd X dX12_tellsRound_47 ?_
        refine z_put (q0 := 0) (k := 12) (ci := 12) (ws' := [(q_this, .inr (12, [.ref q_s, .ref q_before, .ref q_saved, .int f_isSaved, .ref q_past, .int f_pastMany, .int f_thrown, .int f_reason, .int f_detail, .int f_isRefused, .ref q_steps, .ref q_goes, .int (f_goesMany + (1 : Int32)), .int f_roundSteps, .ref q_line, .int f_lineMany, .ref q_text, .int f_length, .int f_at, .int f_isWrong, .int f_errorAt, .ref q_orders, .int f_orderMany])), (q_s, .inl (g 0, 147, .inl a_s)), (q_steps, .inl (g 0, 64, .inl a_steps)), (q_goes, .inl (g 0, 10, .inl (upd a_goes f_goesMany.toNatClampNeg x1)))]) X iw_X12 tyX12_ok nmX12 rfl qf_X12_X12_goesMany (by decide) rfl rfl dX12_tellsRound_48 rfl rfl rfl (Nat.le_of_ble_eq_true rfl) rfl ?_
        refine z_iload_n X 2 dX12_tellsRound_51 rfl rfl ?_
        refine z_iconst X (1 : Int32) dX12_tellsRound_52 (by decide) ?_
        refine z_iload_n X 1 dX12_tellsRound_53 rfl rfl ?_
        refine z_ishl X dX12_tellsRound_54 ?_
        refine z_ior X dX12_tellsRound_55 ?_
        refine z_istore_n X [(2, .int (x2 ||| ((1 : Int32) <<< (x1 &&& 31)))), (0, .ref q_this), (1, .int x1)] dX12_tellsRound_56 rfl (by decide) rfl ?_
        refine z_aload_n X 1 dX12_tellsRound_57 rfl rfl ?_
        refine z_aload_n X 1 dX12_tellsRound_58 rfl rfl ?_
        refine z_iload_n X 2 dX12_tellsRound_59 rfl rfl ?_
        obtain ⟨o1, e2, h⟩ := bnd_p h
        refine z_rdV (rest := [.ref q_this]) (q0 := 0) (ci := 12) X IW_P k_X12_cellOf (c_X12_cellOf l D g q_this q_s q_before q_saved q_past q_steps q_goes q_line q_text q_orders x1 f_isSaved f_pastMany f_thrown f_reason f_detail f_isRefused (f_goesMany + (1 : Int32)) f_roundSteps f_lineMany f_length f_at f_isWrong f_errorAt f_orderMany a_s o1 e2) ql_X12_X12_cellOf dX12_tellsRound_60 [0, 1] rfl rfl rfl rfl rfl rfl ⟨Nat.le_of_ble_eq_true rfl, Nat.le_of_ble_eq_true rfl, rfl, rfl, Nat.le_of_ble_eq_true rfl, Nat.le_of_ble_eq_true rfl⟩ (Nat.le_of_ble_eq_true rfl) ?_
        obtain ⟨o3, e4, h⟩ := bnd_p h
        refine z_wrV (rest := []) (q0 := 0) (ci := 12) (ws' := [(q_this, .inr (12, [.ref q_s, .ref q_before, .ref q_saved, .int f_isSaved, .ref q_past, .int f_pastMany, .int f_thrown, .int f_reason, .int f_detail, .int f_isRefused, .ref q_steps, .ref q_goes, .int (f_goesMany + (1 : Int32)), .int f_roundSteps, .ref q_line, .int f_lineMany, .ref q_text, .int f_length, .int f_at, .int f_isWrong, .int f_errorAt, .ref q_orders, .int f_orderMany])), (q_s, .inl (g 0, 147, .inl a_s)), (q_steps, .inl (g 0, 64, .inl o3)), (q_goes, .inl (g 0, 10, .inl (upd a_goes f_goesMany.toNatClampNeg x1)))]) (wr := [(q_goes, .inl (g 0, 10, .inl (upd a_goes f_goesMany.toNatClampNeg x1)))]) (as := [q_this, q_s, q_steps, q_goes]) X k_X12_tellsWays (c_X12_tellsWays l D g q_this q_s q_before q_saved q_past q_steps q_goes q_line q_text q_orders o1 f_isSaved f_pastMany f_thrown f_reason f_detail f_isRefused (f_goesMany + (1 : Int32)) f_roundSteps f_lineMany f_length f_at f_isWrong f_errorAt f_orderMany a_s a_steps o3 e4) ql_X12_X12_tellsWays dX12_tellsRound_63 [0, 1, 2] [3] ⟨rfl, rfl, rfl, rfl, rfl, rfl, rfl, rfl⟩ rfl rfl rfl rfl rfl ⟨Nat.le_of_ble_eq_true rfl, Nat.le_of_ble_eq_true rfl, rfl, rfl, Nat.le_of_ble_eq_true rfl, Nat.le_of_ble_eq_true rfl⟩ (Nat.le_of_ble_eq_true rfl) ?_
        refine z_iconst X ((-1) : Int32) dX12_tellsRound_66 (by decide) ?_
        refine z_istore_n X [(1, .int ((-1) : Int32)), (2, .int (x2 ||| ((1 : Int32) <<< (x1 &&& 31)))), (0, .ref q_this)] dX12_tellsRound_67 rfl (by decide) rfl ?_
        refine z_iconst X (0 : Int32) dX12_tellsRound_68 (by decide) ?_
        refine z_istore_n X [(3, .int (0 : Int32)), (1, .int ((-1) : Int32)), (2, .int (x2 ||| ((1 : Int32) <<< (x1 &&& 31)))), (0, .ref q_this)] dX12_tellsRound_69 rfl (by decide) rfl ?_
        refine z_sub (lv' := [(0, .ref q_this), (1, .int ((-1) : Int32)), (2, .int (x2 ||| ((1 : Int32) <<< (x1 &&& 31)))), (3, .int (0 : Int32))]) [3, 1, 2, 0] rfl ?_
        exact H70 100 ((-1) : Int32) (x2 ||| ((1 : Int32) <<< (x1 &&& 31))) (0 : Int32) (f_goesMany + (1 : Int32)) f_roundSteps o3 (upd a_goes f_goesMany.toNatClampNeg x1) h
  have H24 : ∀ (t0 : Int32) (f_goesMany : Int32) (f_roundSteps : Int32) (a_steps : Nat → Int32) (a_goes : Nat → Int32), J_X12_tellsRound_24 a_s t0 f_goesMany f_roundSteps a_steps a_goes = some o → Z p l e { frames := 3, cells := 0, slots := 0, locals := 86 } s m args below meth c Q 5 0 0 (IW D A s [(q_this, .inr (12, [.ref q_s, .ref q_before, .ref q_saved, .int f_isSaved, .ref q_past, .int f_pastMany, .int f_thrown, .int f_reason, .int f_detail, .int f_isRefused, .ref q_steps, .ref q_goes, .int f_goesMany, .int f_roundSteps, .ref q_line, .int f_lineMany, .ref q_text, .int f_length, .int f_at, .int f_isWrong, .int f_errorAt, .ref q_orders, .int f_orderMany])), (q_s, .inl (g 0, 147, .inl a_s)), (q_steps, .inl (g 0, 64, .inl a_steps)), (q_goes, .inl (g 0, 10, .inl a_goes))]) 24 [(0, .ref q_this)] [.int t0] := by
    intro t0 f_goesMany f_roundSteps a_steps a_goes h
    refine z_istore_n X [(1, .int t0), (0, .ref q_this)] dX12_tellsRound_24 rfl (by decide) rfl ?_
    refine z_iconst X (0 : Int32) dX12_tellsRound_25 (by decide) ?_
    refine z_istore_n X [(2, .int (0 : Int32)), (1, .int t0), (0, .ref q_this)] dX12_tellsRound_26 rfl (by decide) rfl ?_
    refine z_sub (lv' := [(0, .ref q_this), (1, .int t0), (2, .int (0 : Int32))]) [2, 1, 0] rfl ?_
    exact H27 100 t0 (0 : Int32) f_goesMany f_roundSteps a_steps a_goes h
  refine z_aload_n X 0 dX12_tellsRound_0 rfl rfl ?_
  refine z_iconst X (0 : Int32) dX12_tellsRound_1 (by decide) ?_
  refine z_put (q0 := 0) (k := 12) (ci := 12) (ws' := [(q_this, .inr (12, [.ref q_s, .ref q_before, .ref q_saved, .int f_isSaved, .ref q_past, .int f_pastMany, .int f_thrown, .int f_reason, .int f_detail, .int f_isRefused, .ref q_steps, .ref q_goes, .int (0 : Int32), .int f_roundSteps, .ref q_line, .int f_lineMany, .ref q_text, .int f_length, .int f_at, .int f_isWrong, .int f_errorAt, .ref q_orders, .int f_orderMany])), (q_s, .inl (g 0, 147, .inl a_s)), (q_steps, .inl (g 0, 64, .inl a_steps)), (q_goes, .inl (g 0, 10, .inl a_goes))]) X iw_X12 tyX12_ok nmX12 rfl qf_X12_X12_goesMany (by decide) rfl rfl dX12_tellsRound_2 rfl rfl rfl (Nat.le_of_ble_eq_true rfl) rfl ?_
  refine z_aload_n X 0 dX12_tellsRound_5 rfl rfl ?_
  refine z_iconst X (0 : Int32) dX12_tellsRound_6 (by decide) ?_
  refine z_put (q0 := 0) (k := 13) (ci := 12) (ws' := [(q_this, .inr (12, [.ref q_s, .ref q_before, .ref q_saved, .int f_isSaved, .ref q_past, .int f_pastMany, .int f_thrown, .int f_reason, .int f_detail, .int f_isRefused, .ref q_steps, .ref q_goes, .int (0 : Int32), .int (0 : Int32), .ref q_line, .int f_lineMany, .ref q_text, .int f_length, .int f_at, .int f_isWrong, .int f_errorAt, .ref q_orders, .int f_orderMany])), (q_s, .inl (g 0, 147, .inl a_s)), (q_steps, .inl (g 0, 64, .inl a_steps)), (q_goes, .inl (g 0, 10, .inl a_goes))]) X iw_X12 tyX12_ok nmX12 rfl qf_X12_X12_roundSteps (by decide) rfl rfl dX12_tellsRound_7 rfl rfl rfl (Nat.le_of_ble_eq_true rfl) rfl ?_
  refine z_aload_n X 0 dX12_tellsRound_10 rfl rfl ?_
  refine z_get (q0 := 0) (k := 0) (ci := 12) X IW_P iw_X12 rfl qf_X12_X12_s (by decide) dX12_tellsRound_11 rfl rfl ?_
  refine z_iconst X (2 : Int32) dX12_tellsRound_14 (by decide) ?_
  refine z_iald (q0 := 1) X IW_P dX12_tellsRound_15 rfl h (fun h => ?_)
  refine z_if_le X 23 dX12_tellsRound_16 (by decide) h (fun _ h => ?_) (fun _ h => ?_)
  · refine z_iconst X ((-1) : Int32) dX12_tellsRound_23 (by decide) ?_
    exact H24 ((-1) : Int32) (0 : Int32) (0 : Int32) a_steps a_goes h
  · refine z_iconst X (0 : Int32) dX12_tellsRound_19 (by decide) ?_
    refine z_goto X 24 dX12_tellsRound_20 (by decide) ?_
    exact H24 (0 : Int32) (0 : Int32) (0 : Int32) a_steps a_goes h
