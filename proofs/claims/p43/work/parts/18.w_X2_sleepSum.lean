def L_X2_sleepSum_4 (f_size : Int32) (a_froms : Nat → Int32) (a_tos : Nat → Int32) : Nat → Int32 → Int32 → Option (Int32)
  | 0, _, _ => none
  | _n + 1, x1, x2 =>
    brn (f_size ≤ x2) (some (x1)) (bnd (F_X2_sleepAt x2 a_froms a_tos) (fun o1 => L_X2_sleepSum_4 f_size a_froms a_tos _n (x1 + o1) (x2 + 1)))

def F_X2_sleepSum (f_size : Int32) (a_froms : Nat → Int32) (a_tos : Nat → Int32) : Option (Int32) :=
  L_X2_sleepSum_4 f_size a_froms a_tos 100 (0 : Int32) (0 : Int32)
theorem dX2_sleepSum_0 : decode cX2_sleepSum 0 = .ok (.iconst 0, 1) := by decide +kernel
theorem dX2_sleepSum_1 : decode cX2_sleepSum 1 = .ok (.istore_n 1, 1) := by decide +kernel
theorem dX2_sleepSum_2 : decode cX2_sleepSum 2 = .ok (.iconst 0, 1) := by decide +kernel
theorem dX2_sleepSum_3 : decode cX2_sleepSum 3 = .ok (.istore_n 2, 1) := by decide +kernel
theorem dX2_sleepSum_4 : decode cX2_sleepSum 4 = .ok (.iload_n 2, 1) := by decide +kernel
theorem dX2_sleepSum_5 : decode cX2_sleepSum 5 = .ok (.aload_n 0, 1) := by decide +kernel
theorem dX2_sleepSum_6 : decode cX2_sleepSum 6 = .ok (.getfield 27, 3) := by decide +kernel
theorem dX2_sleepSum_9 : decode cX2_sleepSum 9 = .ok (.if_icmp .ge 17, 3) := by decide +kernel
theorem dX2_sleepSum_12 : decode cX2_sleepSum 12 = .ok (.iload_n 1, 1) := by decide +kernel
theorem dX2_sleepSum_13 : decode cX2_sleepSum 13 = .ok (.aload_n 0, 1) := by decide +kernel
theorem dX2_sleepSum_14 : decode cX2_sleepSum 14 = .ok (.iload_n 2, 1) := by decide +kernel
theorem dX2_sleepSum_15 : decode cX2_sleepSum 15 = .ok (.invokevirtual 62, 3) := by decide +kernel
theorem dX2_sleepSum_18 : decode cX2_sleepSum 18 = .ok (.iadd, 1) := by decide +kernel
theorem dX2_sleepSum_19 : decode cX2_sleepSum 19 = .ok (.istore_n 1, 1) := by decide +kernel
theorem dX2_sleepSum_20 : decode cX2_sleepSum 20 = .ok (.iinc 2 1, 3) := by decide +kernel
theorem dX2_sleepSum_23 : decode cX2_sleepSum 23 = .ok (.goto (-19), 3) := by decide +kernel
theorem dX2_sleepSum_26 : decode cX2_sleepSum 26 = .ok (.iload_n 1, 1) := by decide +kernel
theorem dX2_sleepSum_27 : decode cX2_sleepSum 27 = .ok (.ireturn, 1) := by decide +kernel
theorem k_X2_sleepSum : cardV yX2_sleepSum (Cond.code yX2_sleepSum cX2_sleepSum 3 (some .int)) 0 := ⟨⟨qi_X2_sleepSum, qv_X2_sleepSum⟩, qc_X2_sleepSum, qn_X2, by decide +kernel, by decide +kernel, by decide +kernel⟩
set_option maxHeartbeats 4000000 in
set_option maxRecDepth 100000 in
theorem c_X2_sleepSum (l : Launch) (D : va_G) (g : Nat → ClassId) (q_this q_cells q_froms q_tos q_rings q_pranks : Nat) (f_size : Int32) (a_froms : Nat → Int32) (a_tos : Nat → Int32) (o : Int32) (h : F_X2_sleepSum f_size a_froms a_tos = some o) : MR l yX2_sleepSum (Cond.code yX2_sleepSum cX2_sleepSum 3 (some .int)) { frames := 3, cells := 0, slots := 0, locals := 63 } D g [.ref q_this] [(q_this, .inr (3, [.int f_size, .ref q_cells, .ref q_froms, .ref q_tos, .ref q_rings, .ref q_pranks])), (q_froms, .inl (g 0, 10, .inl a_froms)), (q_tos, .inl (g 0, 10, .inl a_tos))] (some (.int o)) := by
  refine z_rd_start (by decide) (Nat.le_of_ble_eq_true rfl) ?_
  intro p e s m args below meth c Q X hr hQ
  refine z_lv (lv' := [(0, .ref q_this)]) rfl ?_
  have H4 : ∀ (n : Nat) (x1 : Int32) (x2 : Int32), L_X2_sleepSum_4 f_size a_froms a_tos  n x1 x2 = some o → Z p l e { frames := 3, cells := 0, slots := 0, locals := 63 } s m args below meth c Q 3 0 0 (IR D [(q_this, .inr (3, [.int f_size, .ref q_cells, .ref q_froms, .ref q_tos, .ref q_rings, .ref q_pranks])), (q_froms, .inl (g 0, 10, .inl a_froms)), (q_tos, .inl (g 0, 10, .inl a_tos))] s) 4 [(0, .ref q_this), (1, .int x1), (2, .int x2)] [] := by
    intro n
    induction n with
    | zero => intro x1 x2 h; cases h
    | succ n4 ih4 =>
      intro x1 x2 h
      refine z_iload_n X 2 dX2_sleepSum_4 rfl rfl ?_
      refine z_aload_n X 0 dX2_sleepSum_5 rfl rfl ?_
      refine z_get (q0 := 0) (k := 0) (ci := 3) X IR_P iw_X2 rfl qf_X2_X2_size (by decide) dX2_sleepSum_6 rfl rfl ?_
      refine z_icmp_ge X 26 dX2_sleepSum_9 (by decide) h (fun _ h => ?_) (fun _ h => ?_)
      · refine z_iload_n X 1 dX2_sleepSum_26 rfl rfl ?_
        exact z_iretR X hQ hr dX2_sleepSum_27 h
      · refine z_iload_n X 1 dX2_sleepSum_12 rfl rfl ?_
        refine z_aload_n X 0 dX2_sleepSum_13 rfl rfl ?_
        refine z_iload_n X 2 dX2_sleepSum_14 rfl rfl ?_
        obtain ⟨o1, e2, h⟩ := bnd_p h
        refine z_rdV (rest := [.int x1]) (q0 := 0) (ci := 3) X IR_P k_X2_sleepAt (c_X2_sleepAt l D g q_this q_cells q_froms q_tos q_rings q_pranks x2 f_size a_froms a_tos o1 e2) ql_X2_X2_sleepAt dX2_sleepSum_15 [0, 1, 2] rfl rfl rfl rfl rfl rfl ⟨Nat.le_of_ble_eq_true rfl, Nat.le_of_ble_eq_true rfl, rfl, rfl, Nat.le_of_ble_eq_true rfl, Nat.le_of_ble_eq_true rfl⟩ (Nat.le_of_ble_eq_true rfl) ?_
        refine z_iadd X dX2_sleepSum_18 ?_
        refine z_istore_n X [(1, .int (x1 + o1)), (0, .ref q_this), (2, .int x2)] dX2_sleepSum_19 rfl (by decide) rfl ?_
        refine z_iinc X 2 [(2, .int (x2 + 1)), (1, .int (x1 + o1)), (0, .ref q_this)] dX2_sleepSum_20 rfl rfl (by decide) rfl ?_
        refine z_goto X 4 dX2_sleepSum_23 (by decide) ?_
        refine z_sub (lv' := [(0, .ref q_this), (1, .int (x1 + o1)), (2, .int (x2 + 1))]) [2, 1, 0] rfl ?_
        exact ih4 (x1 + o1) (x2 + 1) h
  refine z_iconst X (0 : Int32) dX2_sleepSum_0 (by decide) ?_
  refine z_istore_n X [(1, .int (0 : Int32)), (0, .ref q_this)] dX2_sleepSum_1 rfl (by decide) rfl ?_
  refine z_iconst X (0 : Int32) dX2_sleepSum_2 (by decide) ?_
  refine z_istore_n X [(2, .int (0 : Int32)), (1, .int (0 : Int32)), (0, .ref q_this)] dX2_sleepSum_3 rfl (by decide) rfl ?_
  refine z_sub (lv' := [(0, .ref q_this), (1, .int (0 : Int32)), (2, .int (0 : Int32))]) [2, 1, 0] rfl ?_
  exact H4 100 (0 : Int32) (0 : Int32) h
