def L_X10_areWaysAlike_41 (f_p1_houses_size : Int32) (a_p1_houses_cells : Nat → Int32) (a_p1_blocks : Nat → Int32) : Nat → Int32 → (Nat → Int32) → (Nat → Int32) → (Nat → Int32) → Option (Int32 × (Nat → Int32) × (Nat → Int32) × (Nat → Int32))
  | 0, _, _, _, _ => none
  | _n + 1, x2, a_steps, a_queue, a_lows =>
    bnd (F_X2_size f_p1_houses_size) (fun o11 => brn (o11 ≤ x2) (some ((1 : Int32), a_steps, a_queue, a_lows)) (bnd (F_X2_cellAt x2 a_p1_houses_cells) (fun o13 => bnd (F_X7_at 64 o13 a_steps) (fun o15 => bnd (F_X7_at 64 o13 a_lows) (fun o17 => brn (o15 = o17) (L_X10_areWaysAlike_41 f_p1_houses_size a_p1_houses_cells a_p1_blocks _n (x2 + 1) a_steps a_queue a_lows) (some ((0 : Int32), a_steps, a_queue, a_lows)))))))

def F_X10_areWaysAlike (f_p1_houses_size : Int32) (a_p1_houses_cells : Nat → Int32) (a_p1_blocks : Nat → Int32) (a_steps : Nat → Int32) (a_queue : Nat → Int32) (a_lows : Nat → Int32) : Option (Int32 × (Nat → Int32) × (Nat → Int32) × (Nat → Int32)) :=
  bnd (F_X2_has (0 : Int32) f_p1_houses_size) (fun o1 => brn (o1 = 0) (some ((1 : Int32), a_steps, a_queue, a_lows)) (bnd (F_X2_cellAt (0 : Int32) a_p1_houses_cells) (fun o3 => bnd (F_X10_measure o3 a_p1_blocks a_steps a_queue) (fun o5 => bnd (F_X2_cellAt (0 : Int32) a_p1_houses_cells) (fun o7 => bnd (F_X10_lower o7 a_p1_blocks a_lows) (fun o9 => L_X10_areWaysAlike_41 f_p1_houses_size a_p1_houses_cells a_p1_blocks 100 (0 : Int32) o5.1 o5.2 o9))))))
theorem dX10_areWaysAlike_0 : decode cX10_areWaysAlike 0 = .ok (.aload_n 1, 1) := by decide +kernel
theorem dX10_areWaysAlike_1 : decode cX10_areWaysAlike 1 = .ok (.getfield 44, 3) := by decide +kernel
theorem dX10_areWaysAlike_4 : decode cX10_areWaysAlike 4 = .ok (.iconst 0, 1) := by decide +kernel
theorem dX10_areWaysAlike_5 : decode cX10_areWaysAlike 5 = .ok (.invokevirtual 50, 3) := by decide +kernel
theorem dX10_areWaysAlike_8 : decode cX10_areWaysAlike 8 = .ok (.ifCond .ne 5, 3) := by decide +kernel
theorem dX10_areWaysAlike_11 : decode cX10_areWaysAlike 11 = .ok (.iconst 1, 1) := by decide +kernel
theorem dX10_areWaysAlike_12 : decode cX10_areWaysAlike 12 = .ok (.ireturn, 1) := by decide +kernel
theorem dX10_areWaysAlike_13 : decode cX10_areWaysAlike 13 = .ok (.aload_n 0, 1) := by decide +kernel
theorem dX10_areWaysAlike_14 : decode cX10_areWaysAlike 14 = .ok (.aload_n 1, 1) := by decide +kernel
theorem dX10_areWaysAlike_15 : decode cX10_areWaysAlike 15 = .ok (.aload_n 1, 1) := by decide +kernel
theorem dX10_areWaysAlike_16 : decode cX10_areWaysAlike 16 = .ok (.getfield 44, 3) := by decide +kernel
theorem dX10_areWaysAlike_19 : decode cX10_areWaysAlike 19 = .ok (.iconst 0, 1) := by decide +kernel
theorem dX10_areWaysAlike_20 : decode cX10_areWaysAlike 20 = .ok (.invokevirtual 56, 3) := by decide +kernel
theorem dX10_areWaysAlike_23 : decode cX10_areWaysAlike 23 = .ok (.invokevirtual 31, 3) := by decide +kernel
theorem dX10_areWaysAlike_26 : decode cX10_areWaysAlike 26 = .ok (.aload_n 0, 1) := by decide +kernel
theorem dX10_areWaysAlike_27 : decode cX10_areWaysAlike 27 = .ok (.aload_n 1, 1) := by decide +kernel
theorem dX10_areWaysAlike_28 : decode cX10_areWaysAlike 28 = .ok (.aload_n 1, 1) := by decide +kernel
theorem dX10_areWaysAlike_29 : decode cX10_areWaysAlike 29 = .ok (.getfield 44, 3) := by decide +kernel
theorem dX10_areWaysAlike_32 : decode cX10_areWaysAlike 32 = .ok (.iconst 0, 1) := by decide +kernel
theorem dX10_areWaysAlike_33 : decode cX10_areWaysAlike 33 = .ok (.invokevirtual 56, 3) := by decide +kernel
theorem dX10_areWaysAlike_36 : decode cX10_areWaysAlike 36 = .ok (.invokevirtual 41, 3) := by decide +kernel
theorem dX10_areWaysAlike_39 : decode cX10_areWaysAlike 39 = .ok (.iconst 0, 1) := by decide +kernel
theorem dX10_areWaysAlike_40 : decode cX10_areWaysAlike 40 = .ok (.istore_n 2, 1) := by decide +kernel
theorem dX10_areWaysAlike_41 : decode cX10_areWaysAlike 41 = .ok (.iload_n 2, 1) := by decide +kernel
theorem dX10_areWaysAlike_42 : decode cX10_areWaysAlike 42 = .ok (.aload_n 1, 1) := by decide +kernel
theorem dX10_areWaysAlike_43 : decode cX10_areWaysAlike 43 = .ok (.getfield 44, 3) := by decide +kernel
theorem dX10_areWaysAlike_46 : decode cX10_areWaysAlike 46 = .ok (.invokevirtual 60, 3) := by decide +kernel
theorem dX10_areWaysAlike_49 : decode cX10_areWaysAlike 49 = .ok (.if_icmp .ge 39, 3) := by decide +kernel
theorem dX10_areWaysAlike_52 : decode cX10_areWaysAlike 52 = .ok (.aload_n 1, 1) := by decide +kernel
theorem dX10_areWaysAlike_53 : decode cX10_areWaysAlike 53 = .ok (.getfield 44, 3) := by decide +kernel
theorem dX10_areWaysAlike_56 : decode cX10_areWaysAlike 56 = .ok (.iload_n 2, 1) := by decide +kernel
theorem dX10_areWaysAlike_57 : decode cX10_areWaysAlike 57 = .ok (.invokevirtual 56, 3) := by decide +kernel
theorem dX10_areWaysAlike_60 : decode cX10_areWaysAlike 60 = .ok (.istore_n 3, 1) := by decide +kernel
theorem dX10_areWaysAlike_61 : decode cX10_areWaysAlike 61 = .ok (.aload_n 0, 1) := by decide +kernel
theorem dX10_areWaysAlike_62 : decode cX10_areWaysAlike 62 = .ok (.getfield 9, 3) := by decide +kernel
theorem dX10_areWaysAlike_65 : decode cX10_areWaysAlike 65 = .ok (.iload_n 3, 1) := by decide +kernel
theorem dX10_areWaysAlike_66 : decode cX10_areWaysAlike 66 = .ok (.invokestatic 35, 3) := by decide +kernel
theorem dX10_areWaysAlike_69 : decode cX10_areWaysAlike 69 = .ok (.aload_n 0, 1) := by decide +kernel
theorem dX10_areWaysAlike_70 : decode cX10_areWaysAlike 70 = .ok (.getfield 18, 3) := by decide +kernel
theorem dX10_areWaysAlike_73 : decode cX10_areWaysAlike 73 = .ok (.iload_n 3, 1) := by decide +kernel
theorem dX10_areWaysAlike_74 : decode cX10_areWaysAlike 74 = .ok (.invokestatic 35, 3) := by decide +kernel
theorem dX10_areWaysAlike_77 : decode cX10_areWaysAlike 77 = .ok (.if_icmp .eq 5, 3) := by decide +kernel
theorem dX10_areWaysAlike_80 : decode cX10_areWaysAlike 80 = .ok (.iconst 0, 1) := by decide +kernel
theorem dX10_areWaysAlike_81 : decode cX10_areWaysAlike 81 = .ok (.ireturn, 1) := by decide +kernel
theorem dX10_areWaysAlike_82 : decode cX10_areWaysAlike 82 = .ok (.iinc 2 1, 3) := by decide +kernel
theorem dX10_areWaysAlike_85 : decode cX10_areWaysAlike 85 = .ok (.goto (-44), 3) := by decide +kernel
theorem dX10_areWaysAlike_88 : decode cX10_areWaysAlike 88 = .ok (.iconst 1, 1) := by decide +kernel
theorem dX10_areWaysAlike_89 : decode cX10_areWaysAlike 89 = .ok (.ireturn, 1) := by decide +kernel
theorem k_X10_areWaysAlike : cardV yX10_areWaysAlike (Cond.code yX10_areWaysAlike cX10_areWaysAlike 4 (some .boolean)) 1 := ⟨⟨qi_X10_areWaysAlike, qv_X10_areWaysAlike⟩, qc_X10_areWaysAlike, qn_X10, by decide +kernel, by decide +kernel, by decide +kernel⟩
set_option maxHeartbeats 4000000 in
set_option maxRecDepth 100000 in
theorem c_X10_areWaysAlike (l : Launch) (D : va_G) (g : Nat → ClassId) (q_this q_steps q_queue q_lows q_stops q_p1 q_p1_houses q_p1_halls q_p1_posts q_p1_blocks q_p1_kinds q_p1_houses_cells q_p1_houses_froms q_p1_houses_tos q_p1_houses_rings q_p1_houses_pranks : Nat) (f_stopCount : Int32) (f_stepSum : Int32) (a_steps : Nat → Int32) (a_queue : Nat → Int32) (a_lows : Nat → Int32) (f_p1_hour : Int32) (f_p1_day : Int32) (f_p1_prankHouse : Int32) (f_p1_bells : Int32) (f_p1_echoes : Int32) (f_p1_bellPranks : Int32) (f_p1_houses_size : Int32) (a_p1_houses_cells : Nat → Int32) (a_p1_blocks : Nat → Int32) (o : Int32 × (Nat → Int32) × (Nat → Int32) × (Nat → Int32)) (h : F_X10_areWaysAlike f_p1_houses_size a_p1_houses_cells a_p1_blocks a_steps a_queue a_lows = some o) : MW l yX10_areWaysAlike (Cond.code yX10_areWaysAlike cX10_areWaysAlike 4 (some .boolean)) { frames := 5, cells := 0, slots := 0, locals := 117 } D g [.ref q_this, .ref q_p1] [(q_this, .inr (10, [.ref q_steps, .ref q_queue, .ref q_lows, .ref q_stops, .int f_stopCount, .int f_stepSum])), (q_steps, .inl (g 0, 64, .inl a_steps)), (q_queue, .inl (g 0, 64, .inl a_queue)), (q_lows, .inl (g 0, 64, .inl a_lows)), (q_p1, .inr (9, [.ref q_p1_houses, .ref q_p1_halls, .ref q_p1_posts, .ref q_p1_blocks, .ref q_p1_kinds, .int f_p1_hour, .int f_p1_day, .int f_p1_prankHouse, .int f_p1_bells, .int f_p1_echoes, .int f_p1_bellPranks])), (q_p1_houses, .inr (3, [.int f_p1_houses_size, .ref q_p1_houses_cells, .ref q_p1_houses_froms, .ref q_p1_houses_tos, .ref q_p1_houses_rings, .ref q_p1_houses_pranks])), (q_p1_houses_cells, .inl (g 0, 10, .inl a_p1_houses_cells)), (q_p1_blocks, .inl (g 0, 64, .inl a_p1_blocks))] (some (.int o.1)) [(q_this, .inr (10, [.ref q_steps, .ref q_queue, .ref q_lows, .ref q_stops, .int f_stopCount, .int f_stepSum])), (q_steps, .inl (g 0, 64, .inl o.2.1)), (q_queue, .inl (g 0, 64, .inl o.2.2.1)), (q_lows, .inl (g 0, 64, .inl o.2.2.2)), (q_p1, .inr (9, [.ref q_p1_houses, .ref q_p1_halls, .ref q_p1_posts, .ref q_p1_blocks, .ref q_p1_kinds, .int f_p1_hour, .int f_p1_day, .int f_p1_prankHouse, .int f_p1_bells, .int f_p1_echoes, .int f_p1_bellPranks])), (q_p1_houses, .inr (3, [.int f_p1_houses_size, .ref q_p1_houses_cells, .ref q_p1_houses_froms, .ref q_p1_houses_tos, .ref q_p1_houses_rings, .ref q_p1_houses_pranks])), (q_p1_houses_cells, .inl (g 0, 10, .inl a_p1_houses_cells)), (q_p1_blocks, .inl (g 0, 64, .inl a_p1_blocks))] := by
  refine z_wr_start (by decide) (Nat.le_of_ble_eq_true rfl) ?_
  intro p e s m args below meth c Q A X hr hQ hA
  refine z_lv (lv' := [(0, .ref q_this), (1, .ref q_p1)]) rfl ?_
  have H41 : ∀ (n : Nat) (x2 : Int32) (a_steps : Nat → Int32) (a_queue : Nat → Int32) (a_lows : Nat → Int32), L_X10_areWaysAlike_41 f_p1_houses_size a_p1_houses_cells a_p1_blocks  n x2 a_steps a_queue a_lows = some o → Z p l e { frames := 5, cells := 0, slots := 0, locals := 117 } s m args below meth c Q 4 0 0 (IW D A s [(q_this, .inr (10, [.ref q_steps, .ref q_queue, .ref q_lows, .ref q_stops, .int f_stopCount, .int f_stepSum])), (q_steps, .inl (g 0, 64, .inl a_steps)), (q_queue, .inl (g 0, 64, .inl a_queue)), (q_lows, .inl (g 0, 64, .inl a_lows)), (q_p1, .inr (9, [.ref q_p1_houses, .ref q_p1_halls, .ref q_p1_posts, .ref q_p1_blocks, .ref q_p1_kinds, .int f_p1_hour, .int f_p1_day, .int f_p1_prankHouse, .int f_p1_bells, .int f_p1_echoes, .int f_p1_bellPranks])), (q_p1_houses, .inr (3, [.int f_p1_houses_size, .ref q_p1_houses_cells, .ref q_p1_houses_froms, .ref q_p1_houses_tos, .ref q_p1_houses_rings, .ref q_p1_houses_pranks])), (q_p1_houses_cells, .inl (g 0, 10, .inl a_p1_houses_cells)), (q_p1_blocks, .inl (g 0, 64, .inl a_p1_blocks))]) 41 [(0, .ref q_this), (1, .ref q_p1), (2, .int x2)] [] := by
    intro n
    induction n with
    | zero => intro x2 a_steps a_queue a_lows h; cases h
    | succ n41 ih41 =>
      intro x2 a_steps a_queue a_lows h
      refine z_iload_n X 2 dX10_areWaysAlike_41 rfl rfl ?_
      refine z_aload_n X 1 dX10_areWaysAlike_42 rfl rfl ?_
      refine z_getN (q0 := 4) (k := 0) (ci := 9) X IW_P iw_X9 rfl qfN_X10_X9_houses (by decide) dX10_areWaysAlike_43 rfl rfl ?_
      obtain ⟨o11, e12, h⟩ := bnd_p h
      refine z_rdV (rest := [.int x2]) (q0 := 5) (ci := 3) X IW_P k_X2_size (c_X2_size l D g q_p1_houses q_p1_houses_cells q_p1_houses_froms q_p1_houses_tos q_p1_houses_rings q_p1_houses_pranks f_p1_houses_size o11 e12) ql_X10_X2_size dX10_areWaysAlike_46 [5] rfl rfl rfl rfl rfl rfl ⟨Nat.le_of_ble_eq_true rfl, Nat.le_of_ble_eq_true rfl, rfl, rfl, Nat.le_of_ble_eq_true rfl, Nat.le_of_ble_eq_true rfl⟩ (Nat.le_of_ble_eq_true rfl) ?_
      refine z_icmp_ge X 88 dX10_areWaysAlike_49 (by decide) h (fun _ h => ?_) (fun _ h => ?_)
      · refine z_iconst X (1 : Int32) dX10_areWaysAlike_88 (by decide) ?_
        cases h
        exact z_zretW X hQ hA hr dX10_areWaysAlike_89 rfl
      · refine z_aload_n X 1 dX10_areWaysAlike_52 rfl rfl ?_
        refine z_getN (q0 := 4) (k := 0) (ci := 9) X IW_P iw_X9 rfl qfN_X10_X9_houses (by decide) dX10_areWaysAlike_53 rfl rfl ?_
        refine z_iload_n X 2 dX10_areWaysAlike_56 rfl rfl ?_
        obtain ⟨o13, e14, h⟩ := bnd_p h
        refine z_rdV (rest := []) (q0 := 5) (ci := 3) X IW_P k_X2_cellAt (c_X2_cellAt l D g q_p1_houses q_p1_houses_cells q_p1_houses_froms q_p1_houses_tos q_p1_houses_rings q_p1_houses_pranks x2 f_p1_houses_size a_p1_houses_cells o13 e14) ql_X10_X2_cellAt dX10_areWaysAlike_57 [5, 6] rfl rfl rfl rfl rfl rfl ⟨Nat.le_of_ble_eq_true rfl, Nat.le_of_ble_eq_true rfl, rfl, rfl, Nat.le_of_ble_eq_true rfl, Nat.le_of_ble_eq_true rfl⟩ (Nat.le_of_ble_eq_true rfl) ?_
        refine z_istore_n X [(3, .int o13), (0, .ref q_this), (1, .ref q_p1), (2, .int x2)] dX10_areWaysAlike_60 rfl (by decide) rfl ?_
        refine z_aload_n X 1 dX10_areWaysAlike_61 rfl rfl ?_
        refine z_get (q0 := 0) (k := 0) (ci := 10) X IW_P iw_X10 rfl qf_X10_X10_steps (by decide) dX10_areWaysAlike_62 rfl rfl ?_
        refine z_iload_n X 0 dX10_areWaysAlike_65 rfl rfl ?_
        obtain ⟨o15, e16, h⟩ := bnd_p h
        refine z_rdS (rest := []) X IW_P k_X7_at (c_X7_at l D g q_steps 64 o13 a_steps o15 e16) ql_X10_X7_at dX10_areWaysAlike_66 [1] rfl rfl rfl ⟨Nat.le_of_ble_eq_true rfl, Nat.le_of_ble_eq_true rfl, rfl, rfl, Nat.le_of_ble_eq_true rfl, Nat.le_of_ble_eq_true rfl⟩ (Nat.le_of_ble_eq_true rfl) ?_
        refine z_aload_n X 1 dX10_areWaysAlike_69 rfl rfl ?_
        refine z_get (q0 := 0) (k := 2) (ci := 10) X IW_P iw_X10 rfl qf_X10_X10_lows (by decide) dX10_areWaysAlike_70 rfl rfl ?_
        refine z_iload_n X 0 dX10_areWaysAlike_73 rfl rfl ?_
        obtain ⟨o17, e18, h⟩ := bnd_p h
        refine z_rdS (rest := [.int o15]) X IW_P k_X7_at (c_X7_at l D g q_lows 64 o13 a_lows o17 e18) ql_X10_X7_at dX10_areWaysAlike_74 [3] rfl rfl rfl ⟨Nat.le_of_ble_eq_true rfl, Nat.le_of_ble_eq_true rfl, rfl, rfl, Nat.le_of_ble_eq_true rfl, Nat.le_of_ble_eq_true rfl⟩ (Nat.le_of_ble_eq_true rfl) ?_
        refine z_icmp_eq X 82 dX10_areWaysAlike_77 (by decide) h (fun _ h => ?_) (fun _ h => ?_)
        · refine z_iinc X 3 [(2, .int (x2 + 1)), (3, .int o13), (0, .ref q_this), (1, .ref q_p1)] dX10_areWaysAlike_82 rfl rfl (by decide) rfl ?_
          refine z_goto X 41 dX10_areWaysAlike_85 (by decide) ?_
          refine z_sub (lv' := [(0, .ref q_this), (1, .ref q_p1), (2, .int (x2 + 1))]) [2, 3, 0] rfl ?_
          exact ih41 (x2 + 1) a_steps a_queue a_lows h
        · refine z_iconst X (0 : Int32) dX10_areWaysAlike_80 (by decide) ?_
          cases h
          exact z_zretW X hQ hA hr dX10_areWaysAlike_81 rfl
  refine z_aload_n X 1 dX10_areWaysAlike_0 rfl rfl ?_
  refine z_getN (q0 := 4) (k := 0) (ci := 9) X IW_P iw_X9 rfl qfN_X10_X9_houses (by decide) dX10_areWaysAlike_1 rfl rfl ?_
  refine z_iconst X (0 : Int32) dX10_areWaysAlike_4 (by decide) ?_
  obtain ⟨o1, e2, h⟩ := bnd_p h
  refine z_rdV (rest := []) (q0 := 5) (ci := 3) X IW_P k_X2_has (c_X2_has l D g q_p1_houses q_p1_houses_cells q_p1_houses_froms q_p1_houses_tos q_p1_houses_rings q_p1_houses_pranks (0 : Int32) f_p1_houses_size o1 e2) ql_X10_X2_has dX10_areWaysAlike_5 [5] rfl rfl rfl rfl rfl rfl ⟨Nat.le_of_ble_eq_true rfl, Nat.le_of_ble_eq_true rfl, rfl, rfl, Nat.le_of_ble_eq_true rfl, Nat.le_of_ble_eq_true rfl⟩ (Nat.le_of_ble_eq_true rfl) ?_
  refine z_if_ne X 13 dX10_areWaysAlike_8 (by decide) h (fun _ h => ?_) (fun _ h => ?_)
  · refine z_iconst X (1 : Int32) dX10_areWaysAlike_11 (by decide) ?_
    cases h
    exact z_zretW X hQ hA hr dX10_areWaysAlike_12 rfl
  · refine z_aload_n X 0 dX10_areWaysAlike_13 rfl rfl ?_
    refine z_aload_n X 1 dX10_areWaysAlike_14 rfl rfl ?_
    refine z_aload_n X 1 dX10_areWaysAlike_15 rfl rfl ?_
    refine z_getN (q0 := 4) (k := 0) (ci := 9) X IW_P iw_X9 rfl qfN_X10_X9_houses (by decide) dX10_areWaysAlike_16 rfl rfl ?_
    refine z_iconst X (0 : Int32) dX10_areWaysAlike_19 (by decide) ?_
    obtain ⟨o3, e4, h⟩ := bnd_p h
    refine z_rdV (rest := [.ref q_p1, .ref q_this]) (q0 := 5) (ci := 3) X IW_P k_X2_cellAt (c_X2_cellAt l D g q_p1_houses q_p1_houses_cells q_p1_houses_froms q_p1_houses_tos q_p1_houses_rings q_p1_houses_pranks (0 : Int32) f_p1_houses_size a_p1_houses_cells o3 e4) ql_X10_X2_cellAt dX10_areWaysAlike_20 [5, 6] rfl rfl rfl rfl rfl rfl ⟨Nat.le_of_ble_eq_true rfl, Nat.le_of_ble_eq_true rfl, rfl, rfl, Nat.le_of_ble_eq_true rfl, Nat.le_of_ble_eq_true rfl⟩ (Nat.le_of_ble_eq_true rfl) ?_
    obtain ⟨o5, e6, h⟩ := bnd_p h
    refine z_wrV (rest := []) (q0 := 0) (ci := 10) (ws' := [(q_this, .inr (10, [.ref q_steps, .ref q_queue, .ref q_lows, .ref q_stops, .int f_stopCount, .int f_stepSum])), (q_steps, .inl (g 0, 64, .inl o5.1)), (q_queue, .inl (g 0, 64, .inl o5.2)), (q_lows, .inl (g 0, 64, .inl a_lows)), (q_p1, .inr (9, [.ref q_p1_houses, .ref q_p1_halls, .ref q_p1_posts, .ref q_p1_blocks, .ref q_p1_kinds, .int f_p1_hour, .int f_p1_day, .int f_p1_prankHouse, .int f_p1_bells, .int f_p1_echoes, .int f_p1_bellPranks])), (q_p1_houses, .inr (3, [.int f_p1_houses_size, .ref q_p1_houses_cells, .ref q_p1_houses_froms, .ref q_p1_houses_tos, .ref q_p1_houses_rings, .ref q_p1_houses_pranks])), (q_p1_houses_cells, .inl (g 0, 10, .inl a_p1_houses_cells)), (q_p1_blocks, .inl (g 0, 64, .inl a_p1_blocks))]) (wr := [(q_lows, .inl (g 0, 64, .inl a_lows)), (q_p1_houses, .inr (3, [.int f_p1_houses_size, .ref q_p1_houses_cells, .ref q_p1_houses_froms, .ref q_p1_houses_tos, .ref q_p1_houses_rings, .ref q_p1_houses_pranks])), (q_p1_houses_cells, .inl (g 0, 10, .inl a_p1_houses_cells))]) (as := [q_this, q_steps, q_queue, q_lows, q_p1, q_p1_houses, q_p1_houses_cells, q_p1_blocks]) X k_X10_measure (c_X10_measure l D g q_this q_steps q_queue q_lows q_stops q_p1 q_p1_houses q_p1_halls q_p1_posts q_p1_blocks q_p1_kinds o3 f_stopCount f_stepSum a_steps a_queue f_p1_hour f_p1_day f_p1_prankHouse f_p1_bells f_p1_echoes f_p1_bellPranks a_p1_blocks o5 e6) ql_X10_X10_measure dX10_areWaysAlike_23 [0, 1, 2, 4, 7] [3, 5, 6] ⟨rfl, rfl, rfl, rfl, rfl, rfl, rfl, rfl⟩ rfl rfl rfl rfl rfl ⟨Nat.le_of_ble_eq_true rfl, Nat.le_of_ble_eq_true rfl, rfl, rfl, Nat.le_of_ble_eq_true rfl, Nat.le_of_ble_eq_true rfl⟩ (Nat.le_of_ble_eq_true rfl) ?_
    refine z_aload_n X 0 dX10_areWaysAlike_26 rfl rfl ?_
    refine z_aload_n X 1 dX10_areWaysAlike_27 rfl rfl ?_
    refine z_aload_n X 1 dX10_areWaysAlike_28 rfl rfl ?_
    refine z_getN (q0 := 4) (k := 0) (ci := 9) X IW_P iw_X9 rfl qfN_X10_X9_houses (by decide) dX10_areWaysAlike_29 rfl rfl ?_
    refine z_iconst X (0 : Int32) dX10_areWaysAlike_32 (by decide) ?_
    obtain ⟨o7, e8, h⟩ := bnd_p h
    refine z_rdV (rest := [.ref q_p1, .ref q_this]) (q0 := 5) (ci := 3) X IW_P k_X2_cellAt (c_X2_cellAt l D g q_p1_houses q_p1_houses_cells q_p1_houses_froms q_p1_houses_tos q_p1_houses_rings q_p1_houses_pranks (0 : Int32) f_p1_houses_size a_p1_houses_cells o7 e8) ql_X10_X2_cellAt dX10_areWaysAlike_33 [5, 6] rfl rfl rfl rfl rfl rfl ⟨Nat.le_of_ble_eq_true rfl, Nat.le_of_ble_eq_true rfl, rfl, rfl, Nat.le_of_ble_eq_true rfl, Nat.le_of_ble_eq_true rfl⟩ (Nat.le_of_ble_eq_true rfl) ?_
    obtain ⟨o9, e10, h⟩ := bnd_p h
    refine z_wrV (rest := []) (q0 := 0) (ci := 10) (ws' := [(q_this, .inr (10, [.ref q_steps, .ref q_queue, .ref q_lows, .ref q_stops, .int f_stopCount, .int f_stepSum])), (q_steps, .inl (g 0, 64, .inl o5.1)), (q_queue, .inl (g 0, 64, .inl o5.2)), (q_lows, .inl (g 0, 64, .inl o9)), (q_p1, .inr (9, [.ref q_p1_houses, .ref q_p1_halls, .ref q_p1_posts, .ref q_p1_blocks, .ref q_p1_kinds, .int f_p1_hour, .int f_p1_day, .int f_p1_prankHouse, .int f_p1_bells, .int f_p1_echoes, .int f_p1_bellPranks])), (q_p1_houses, .inr (3, [.int f_p1_houses_size, .ref q_p1_houses_cells, .ref q_p1_houses_froms, .ref q_p1_houses_tos, .ref q_p1_houses_rings, .ref q_p1_houses_pranks])), (q_p1_houses_cells, .inl (g 0, 10, .inl a_p1_houses_cells)), (q_p1_blocks, .inl (g 0, 64, .inl a_p1_blocks))]) (wr := [(q_steps, .inl (g 0, 64, .inl o5.1)), (q_queue, .inl (g 0, 64, .inl o5.2)), (q_p1_houses, .inr (3, [.int f_p1_houses_size, .ref q_p1_houses_cells, .ref q_p1_houses_froms, .ref q_p1_houses_tos, .ref q_p1_houses_rings, .ref q_p1_houses_pranks])), (q_p1_houses_cells, .inl (g 0, 10, .inl a_p1_houses_cells))]) (as := [q_this, q_steps, q_queue, q_lows, q_p1, q_p1_houses, q_p1_houses_cells, q_p1_blocks]) X k_X10_lower (c_X10_lower l D g q_this q_steps q_queue q_lows q_stops q_p1 q_p1_houses q_p1_halls q_p1_posts q_p1_blocks q_p1_kinds o7 f_stopCount f_stepSum a_lows f_p1_hour f_p1_day f_p1_prankHouse f_p1_bells f_p1_echoes f_p1_bellPranks a_p1_blocks o9 e10) ql_X10_X10_lower dX10_areWaysAlike_36 [0, 3, 4, 7] [1, 2, 5, 6] ⟨rfl, rfl, rfl, rfl, rfl, rfl, rfl, rfl⟩ rfl rfl rfl rfl rfl ⟨Nat.le_of_ble_eq_true rfl, Nat.le_of_ble_eq_true rfl, rfl, rfl, Nat.le_of_ble_eq_true rfl, Nat.le_of_ble_eq_true rfl⟩ (Nat.le_of_ble_eq_true rfl) ?_
    refine z_iconst X (0 : Int32) dX10_areWaysAlike_39 (by decide) ?_
    refine z_istore_n X [(2, .int (0 : Int32)), (0, .ref q_this), (1, .ref q_p1)] dX10_areWaysAlike_40 rfl (by decide) rfl ?_
    refine z_sub (lv' := [(0, .ref q_this), (1, .ref q_p1), (2, .int (0 : Int32))]) [1, 2, 0] rfl ?_
    exact H41 100 (0 : Int32) o5.1 o5.2 o9 h

def F_X9_countRings (a_kinds : Nat → Int32) : Option (Int32) :=
  bnd (F_X7_sum 4 a_kinds) (fun o1 => some (o1))
theorem dX9_countRings_0 : decode cX9_countRings 0 = .ok (.aload_n 0, 1) := by decide +kernel
theorem dX9_countRings_1 : decode cX9_countRings 1 = .ok (.getfield 36, 3) := by decide +kernel
theorem dX9_countRings_4 : decode cX9_countRings 4 = .ok (.invokestatic 139, 3) := by decide +kernel
theorem dX9_countRings_7 : decode cX9_countRings 7 = .ok (.ireturn, 1) := by decide +kernel
theorem k_X9_countRings : cardV yX9_countRings (Cond.code yX9_countRings cX9_countRings 1 (some .int)) 0 := ⟨⟨qi_X9_countRings, qv_X9_countRings⟩, qc_X9_countRings, qn_X9, by decide +kernel, by decide +kernel, by decide +kernel⟩
set_option maxHeartbeats 4000000 in
set_option maxRecDepth 100000 in
theorem c_X9_countRings (l : Launch) (D : va_G) (g : Nat → ClassId) (q_this q_houses q_halls q_posts q_blocks q_kinds : Nat) (f_hour : Int32) (f_day : Int32) (f_prankHouse : Int32) (f_bells : Int32) (f_echoes : Int32) (f_bellPranks : Int32) (a_kinds : Nat → Int32) (o : Int32) (h : F_X9_countRings a_kinds = some o) : MR l yX9_countRings (Cond.code yX9_countRings cX9_countRings 1 (some .int)) { frames := 1, cells := 0, slots := 0, locals := 25 } D g [.ref q_this] [(q_this, .inr (9, [.ref q_houses, .ref q_halls, .ref q_posts, .ref q_blocks, .ref q_kinds, .int f_hour, .int f_day, .int f_prankHouse, .int f_bells, .int f_echoes, .int f_bellPranks])), (q_kinds, .inl (g 0, 4, .inl a_kinds))] (some (.int o)) := by
  refine z_rd_start (by decide) (Nat.le_of_ble_eq_true rfl) ?_
  intro p e s m args below meth c Q X hr hQ
  refine z_lv (lv' := [(0, .ref q_this)]) rfl ?_
  refine z_aload_n X 0 dX9_countRings_0 rfl rfl ?_
  refine z_get (q0 := 0) (k := 4) (ci := 9) X IR_P iw_X9 rfl qf_X9_X9_kinds (by decide) dX9_countRings_1 rfl rfl ?_
  obtain ⟨o1, e2, h⟩ := bnd_p h
  refine z_rdS (rest := []) X IR_P k_X7_sum (c_X7_sum l D g q_kinds 4 a_kinds o1 e2) ql_X9_X7_sum dX9_countRings_4 [1] rfl rfl rfl ⟨Nat.le_of_ble_eq_true rfl, Nat.le_of_ble_eq_true rfl, rfl, rfl, Nat.le_of_ble_eq_true rfl, Nat.le_of_ble_eq_true rfl⟩ (Nat.le_of_ble_eq_true rfl) ?_
  exact z_iretR X hQ hr dX9_countRings_7 h

def F_X9_areRingsComplete (f_bells : Int32) (f_echoes : Int32) (a_kinds : Nat → Int32) : Option (Int32) :=
  bnd (F_X9_countRings a_kinds) (fun o1 => brn (o1 = (f_bells + f_echoes)) (some ((1 : Int32))) (some ((0 : Int32))))
theorem dX9_areRingsComplete_0 : decode cX9_areRingsComplete 0 = .ok (.aload_n 0, 1) := by decide +kernel
theorem dX9_areRingsComplete_1 : decode cX9_areRingsComplete 1 = .ok (.invokevirtual 186, 3) := by decide +kernel
theorem dX9_areRingsComplete_4 : decode cX9_areRingsComplete 4 = .ok (.aload_n 0, 1) := by decide +kernel
theorem dX9_areRingsComplete_5 : decode cX9_areRingsComplete 5 = .ok (.getfield 49, 3) := by decide +kernel
theorem dX9_areRingsComplete_8 : decode cX9_areRingsComplete 8 = .ok (.aload_n 0, 1) := by decide +kernel
theorem dX9_areRingsComplete_9 : decode cX9_areRingsComplete 9 = .ok (.getfield 52, 3) := by decide +kernel
theorem dX9_areRingsComplete_12 : decode cX9_areRingsComplete 12 = .ok (.iadd, 1) := by decide +kernel
theorem dX9_areRingsComplete_13 : decode cX9_areRingsComplete 13 = .ok (.if_icmp .ne 7, 3) := by decide +kernel
theorem dX9_areRingsComplete_16 : decode cX9_areRingsComplete 16 = .ok (.iconst 1, 1) := by decide +kernel
theorem dX9_areRingsComplete_17 : decode cX9_areRingsComplete 17 = .ok (.goto 4, 3) := by decide +kernel
theorem dX9_areRingsComplete_20 : decode cX9_areRingsComplete 20 = .ok (.iconst 0, 1) := by decide +kernel
theorem dX9_areRingsComplete_21 : decode cX9_areRingsComplete 21 = .ok (.ireturn, 1) := by decide +kernel
theorem k_X9_areRingsComplete : cardV yX9_areRingsComplete (Cond.code yX9_areRingsComplete cX9_areRingsComplete 1 (some .boolean)) 0 := ⟨⟨qi_X9_areRingsComplete, qv_X9_areRingsComplete⟩, qc_X9_areRingsComplete, qn_X9, by decide +kernel, by decide +kernel, by decide +kernel⟩
set_option maxHeartbeats 4000000 in
set_option maxRecDepth 100000 in
theorem c_X9_areRingsComplete (l : Launch) (D : va_G) (g : Nat → ClassId) (q_this q_houses q_halls q_posts q_blocks q_kinds : Nat) (f_hour : Int32) (f_day : Int32) (f_prankHouse : Int32) (f_bells : Int32) (f_echoes : Int32) (f_bellPranks : Int32) (a_kinds : Nat → Int32) (o : Int32) (h : F_X9_areRingsComplete f_bells f_echoes a_kinds = some o) : MR l yX9_areRingsComplete (Cond.code yX9_areRingsComplete cX9_areRingsComplete 1 (some .boolean)) { frames := 2, cells := 0, slots := 0, locals := 45 } D g [.ref q_this] [(q_this, .inr (9, [.ref q_houses, .ref q_halls, .ref q_posts, .ref q_blocks, .ref q_kinds, .int f_hour, .int f_day, .int f_prankHouse, .int f_bells, .int f_echoes, .int f_bellPranks])), (q_kinds, .inl (g 0, 4, .inl a_kinds))] (some (.int o)) := by
  refine z_rd_start (by decide) (Nat.le_of_ble_eq_true rfl) ?_
  intro p e s m args below meth c Q X hr hQ
  refine z_lv (lv' := [(0, .ref q_this)]) rfl ?_
  refine z_aload_n X 0 dX9_areRingsComplete_0 rfl rfl ?_
  obtain ⟨o1, e2, h⟩ := bnd_p h
  refine z_rdV (rest := []) (q0 := 0) (ci := 9) X IR_P k_X9_countRings (c_X9_countRings l D g q_this q_houses q_halls q_posts q_blocks q_kinds f_hour f_day f_prankHouse f_bells f_echoes f_bellPranks a_kinds o1 e2) ql_X9_X9_countRings dX9_areRingsComplete_1 [0, 1] rfl rfl rfl rfl rfl rfl ⟨Nat.le_of_ble_eq_true rfl, Nat.le_of_ble_eq_true rfl, rfl, rfl, Nat.le_of_ble_eq_true rfl, Nat.le_of_ble_eq_true rfl⟩ (Nat.le_of_ble_eq_true rfl) ?_
  refine z_aload_n X 0 dX9_areRingsComplete_4 rfl rfl ?_
  refine z_get (q0 := 0) (k := 8) (ci := 9) X IR_P iw_X9 rfl qf_X9_X9_bells (by decide) dX9_areRingsComplete_5 rfl rfl ?_
  refine z_aload_n X 0 dX9_areRingsComplete_8 rfl rfl ?_
  refine z_get (q0 := 0) (k := 9) (ci := 9) X IR_P iw_X9 rfl qf_X9_X9_echoes (by decide) dX9_areRingsComplete_9 rfl rfl ?_
  refine z_iadd X dX9_areRingsComplete_12 ?_
  refine z_icmp_ne X 20 dX9_areRingsComplete_13 (by decide) h (fun _ h => ?_) (fun _ h => ?_)
  · refine z_iconst X (1 : Int32) dX9_areRingsComplete_16 (by decide) ?_
    refine z_goto X 21 dX9_areRingsComplete_17 (by decide) ?_
    exact z_zretR X hQ hr dX9_areRingsComplete_21 rfl h
  · refine z_iconst X (0 : Int32) dX9_areRingsComplete_20 (by decide) ?_
    exact z_zretR X hQ hr dX9_areRingsComplete_21 rfl h

def J_X11_isWell_40 (f_town_prankHouse : Int32) (f_town_bells : Int32) (f_town_echoes : Int32) (f_town_houses_size : Int32) (a_town_houses_cells : Nat → Int32) (a_town_houses_froms : Nat → Int32) (a_town_houses_tos : Nat → Int32) (f_town_posts_size : Int32) (a_town_posts_cells : Nat → Int32) (a_town_posts_tolds : Nat → Int32) (a_town_blocks : Nat → Int32) (a_town_kinds : Nat → Int32) (a_ways_steps : Nat → Int32) (a_ways_queue : Nat → Int32) (a_ways_lows : Nat → Int32) : Option (Int32 × (Nat → Int32) × (Nat → Int32) × (Nat → Int32)) :=
  bnd (F_X10_areWaysAlike f_town_houses_size a_town_houses_cells a_town_blocks a_ways_steps a_ways_queue a_ways_lows) (fun o5 => brn (o5.1 = 0) (some ((0 : Int32), o5.2.1, o5.2.2.1, o5.2.2.2)) (bnd (F_X9_areRingsComplete f_town_bells f_town_echoes a_town_kinds) (fun o7 => brn (o7 = 0) (some ((0 : Int32), o5.2.1, o5.2.2.1, o5.2.2.2)) (some ((1 : Int32), o5.2.1, o5.2.2.1, o5.2.2.2)))))

def F_X11_isWell (f_town_prankHouse : Int32) (f_town_bells : Int32) (f_town_echoes : Int32) (f_town_houses_size : Int32) (a_town_houses_cells : Nat → Int32) (a_town_houses_froms : Nat → Int32) (a_town_houses_tos : Nat → Int32) (f_town_posts_size : Int32) (a_town_posts_cells : Nat → Int32) (a_town_posts_tolds : Nat → Int32) (a_town_blocks : Nat → Int32) (a_town_kinds : Nat → Int32) (a_ways_steps : Nat → Int32) (a_ways_queue : Nat → Int32) (a_ways_lows : Nat → Int32) : Option (Int32 × (Nat → Int32) × (Nat → Int32) × (Nat → Int32)) :=
  bnd (F_X2_areSleepersAlike f_town_houses_size a_town_houses_froms a_town_houses_tos) (fun o1 => brn (o1 = 0) (some ((0 : Int32), a_ways_steps, a_ways_queue, a_ways_lows)) (bnd (F_X9_hasPrank f_town_prankHouse) (fun o3 => brn (o3 = 0) (J_X11_isWell_40 f_town_prankHouse f_town_bells f_town_echoes f_town_houses_size a_town_houses_cells a_town_houses_froms a_town_houses_tos f_town_posts_size a_town_posts_cells a_town_posts_tolds a_town_blocks a_town_kinds a_ways_steps a_ways_queue a_ways_lows) (bnd (F_X9_countFits f_town_posts_size a_town_posts_cells a_town_posts_tolds a_town_blocks) (fun o9 => bnd (F_X9_countFitsAround f_town_posts_size a_town_posts_cells a_town_posts_tolds a_town_blocks) (fun o11 => brn (o9 = o11) (J_X11_isWell_40 f_town_prankHouse f_town_bells f_town_echoes f_town_houses_size a_town_houses_cells a_town_houses_froms a_town_houses_tos f_town_posts_size a_town_posts_cells a_town_posts_tolds a_town_blocks a_town_kinds a_ways_steps a_ways_queue a_ways_lows) (some ((0 : Int32), a_ways_steps, a_ways_queue, a_ways_lows))))))))
theorem dX11_isWell_0 : decode cX11_isWell 0 = .ok (.aload_n 0, 1) := by decide +kernel
theorem dX11_isWell_1 : decode cX11_isWell 1 = .ok (.getfield 10, 3) := by decide +kernel
theorem dX11_isWell_4 : decode cX11_isWell 4 = .ok (.getfield 73, 3) := by decide +kernel
theorem dX11_isWell_7 : decode cX11_isWell 7 = .ok (.invokevirtual 334, 3) := by decide +kernel
theorem dX11_isWell_10 : decode cX11_isWell 10 = .ok (.ifCond .eq 58, 3) := by decide +kernel
theorem dX11_isWell_13 : decode cX11_isWell 13 = .ok (.aload_n 0, 1) := by decide +kernel
theorem dX11_isWell_14 : decode cX11_isWell 14 = .ok (.getfield 10, 3) := by decide +kernel
theorem dX11_isWell_17 : decode cX11_isWell 17 = .ok (.invokevirtual 230, 3) := by decide +kernel
theorem dX11_isWell_20 : decode cX11_isWell 20 = .ok (.ifCond .eq 20, 3) := by decide +kernel
theorem dX11_isWell_23 : decode cX11_isWell 23 = .ok (.aload_n 0, 1) := by decide +kernel
theorem dX11_isWell_24 : decode cX11_isWell 24 = .ok (.getfield 10, 3) := by decide +kernel
theorem dX11_isWell_27 : decode cX11_isWell 27 = .ok (.invokevirtual 218, 3) := by decide +kernel
theorem dX11_isWell_30 : decode cX11_isWell 30 = .ok (.aload_n 0, 1) := by decide +kernel
theorem dX11_isWell_31 : decode cX11_isWell 31 = .ok (.getfield 10, 3) := by decide +kernel
theorem dX11_isWell_34 : decode cX11_isWell 34 = .ok (.invokevirtual 237, 3) := by decide +kernel
theorem dX11_isWell_37 : decode cX11_isWell 37 = .ok (.if_icmp .ne 31, 3) := by decide +kernel
theorem dX11_isWell_40 : decode cX11_isWell 40 = .ok (.aload_n 0, 1) := by decide +kernel
theorem dX11_isWell_41 : decode cX11_isWell 41 = .ok (.getfield 50, 3) := by decide +kernel
theorem dX11_isWell_44 : decode cX11_isWell 44 = .ok (.aload_n 0, 1) := by decide +kernel
theorem dX11_isWell_45 : decode cX11_isWell 45 = .ok (.getfield 10, 3) := by decide +kernel
theorem dX11_isWell_48 : decode cX11_isWell 48 = .ok (.invokevirtual 337, 3) := by decide +kernel
theorem dX11_isWell_51 : decode cX11_isWell 51 = .ok (.ifCond .eq 17, 3) := by decide +kernel
theorem dX11_isWell_54 : decode cX11_isWell 54 = .ok (.aload_n 0, 1) := by decide +kernel
theorem dX11_isWell_55 : decode cX11_isWell 55 = .ok (.getfield 10, 3) := by decide +kernel
theorem dX11_isWell_58 : decode cX11_isWell 58 = .ok (.invokevirtual 341, 3) := by decide +kernel
theorem dX11_isWell_61 : decode cX11_isWell 61 = .ok (.ifCond .eq 7, 3) := by decide +kernel
theorem dX11_isWell_64 : decode cX11_isWell 64 = .ok (.iconst 1, 1) := by decide +kernel
theorem dX11_isWell_65 : decode cX11_isWell 65 = .ok (.goto 4, 3) := by decide +kernel
theorem dX11_isWell_68 : decode cX11_isWell 68 = .ok (.iconst 0, 1) := by decide +kernel
theorem dX11_isWell_69 : decode cX11_isWell 69 = .ok (.ireturn, 1) := by decide +kernel
theorem k_X11_isWell : cardV yX11_isWell (Cond.code yX11_isWell cX11_isWell 1 (some .boolean)) 0 := ⟨⟨qi_X11_isWell, qv_X11_isWell⟩, qc_X11_isWell, qn_X11, by decide +kernel, by decide +kernel, by decide +kernel⟩
set_option maxHeartbeats 4000000 in
set_option maxRecDepth 100000 in
theorem c_X11_isWell (l : Launch) (D : va_G) (g : Nat → ClassId) (q_this q_town q_ahead q_kept q_past q_reason q_orders q_ways q_sheet q_town_houses q_town_halls q_town_posts q_town_blocks q_town_kinds q_town_houses_cells q_town_houses_froms q_town_houses_tos q_town_houses_rings q_town_houses_pranks q_town_posts_cells q_town_posts_tolds q_ways_steps q_ways_queue q_ways_lows q_ways_stops : Nat) (f_isKept : Int32) (f_town_hour : Int32) (f_town_day : Int32) (f_town_prankHouse : Int32) (f_town_bells : Int32) (f_town_echoes : Int32) (f_town_bellPranks : Int32) (f_town_houses_size : Int32) (a_town_houses_cells : Nat → Int32) (a_town_houses_froms : Nat → Int32) (a_town_houses_tos : Nat → Int32) (f_town_posts_size : Int32) (a_town_posts_cells : Nat → Int32) (a_town_posts_tolds : Nat → Int32) (a_town_blocks : Nat → Int32) (a_town_kinds : Nat → Int32) (f_ways_stopCount : Int32) (f_ways_stepSum : Int32) (a_ways_steps : Nat → Int32) (a_ways_queue : Nat → Int32) (a_ways_lows : Nat → Int32) (o : Int32 × (Nat → Int32) × (Nat → Int32) × (Nat → Int32)) (h : F_X11_isWell f_town_prankHouse f_town_bells f_town_echoes f_town_houses_size a_town_houses_cells a_town_houses_froms a_town_houses_tos f_town_posts_size a_town_posts_cells a_town_posts_tolds a_town_blocks a_town_kinds a_ways_steps a_ways_queue a_ways_lows = some o) : MW l yX11_isWell (Cond.code yX11_isWell cX11_isWell 1 (some .boolean)) { frames := 6, cells := 0, slots := 0, locals := 152 } D g [.ref q_this] [(q_this, .inr (11, [.ref q_town, .ref q_ahead, .ref q_kept, .int f_isKept, .ref q_past, .ref q_reason, .ref q_orders, .ref q_ways, .ref q_sheet])), (q_town, .inr (9, [.ref q_town_houses, .ref q_town_halls, .ref q_town_posts, .ref q_town_blocks, .ref q_town_kinds, .int f_town_hour, .int f_town_day, .int f_town_prankHouse, .int f_town_bells, .int f_town_echoes, .int f_town_bellPranks])), (q_town_houses, .inr (3, [.int f_town_houses_size, .ref q_town_houses_cells, .ref q_town_houses_froms, .ref q_town_houses_tos, .ref q_town_houses_rings, .ref q_town_houses_pranks])), (q_town_houses_cells, .inl (g 0, 10, .inl a_town_houses_cells)), (q_town_houses_froms, .inl (g 0, 10, .inl a_town_houses_froms)), (q_town_houses_tos, .inl (g 0, 10, .inl a_town_houses_tos)), (q_town_posts, .inr (6, [.int f_town_posts_size, .ref q_town_posts_cells, .ref q_town_posts_tolds])), (q_town_posts_cells, .inl (g 0, 4, .inl a_town_posts_cells)), (q_town_posts_tolds, .inl (g 0, 4, .inl a_town_posts_tolds)), (q_town_blocks, .inl (g 0, 64, .inl a_town_blocks)), (q_town_kinds, .inl (g 0, 4, .inl a_town_kinds)), (q_ways, .inr (10, [.ref q_ways_steps, .ref q_ways_queue, .ref q_ways_lows, .ref q_ways_stops, .int f_ways_stopCount, .int f_ways_stepSum])), (q_ways_steps, .inl (g 0, 64, .inl a_ways_steps)), (q_ways_queue, .inl (g 0, 64, .inl a_ways_queue)), (q_ways_lows, .inl (g 0, 64, .inl a_ways_lows))] (some (.int o.1)) [(q_this, .inr (11, [.ref q_town, .ref q_ahead, .ref q_kept, .int f_isKept, .ref q_past, .ref q_reason, .ref q_orders, .ref q_ways, .ref q_sheet])), (q_town, .inr (9, [.ref q_town_houses, .ref q_town_halls, .ref q_town_posts, .ref q_town_blocks, .ref q_town_kinds, .int f_town_hour, .int f_town_day, .int f_town_prankHouse, .int f_town_bells, .int f_town_echoes, .int f_town_bellPranks])), (q_town_houses, .inr (3, [.int f_town_houses_size, .ref q_town_houses_cells, .ref q_town_houses_froms, .ref q_town_houses_tos, .ref q_town_houses_rings, .ref q_town_houses_pranks])), (q_town_houses_cells, .inl (g 0, 10, .inl a_town_houses_cells)), (q_town_houses_froms, .inl (g 0, 10, .inl a_town_houses_froms)), (q_town_houses_tos, .inl (g 0, 10, .inl a_town_houses_tos)), (q_town_posts, .inr (6, [.int f_town_posts_size, .ref q_town_posts_cells, .ref q_town_posts_tolds])), (q_town_posts_cells, .inl (g 0, 4, .inl a_town_posts_cells)), (q_town_posts_tolds, .inl (g 0, 4, .inl a_town_posts_tolds)), (q_town_blocks, .inl (g 0, 64, .inl a_town_blocks)), (q_town_kinds, .inl (g 0, 4, .inl a_town_kinds)), (q_ways, .inr (10, [.ref q_ways_steps, .ref q_ways_queue, .ref q_ways_lows, .ref q_ways_stops, .int f_ways_stopCount, .int f_ways_stepSum])), (q_ways_steps, .inl (g 0, 64, .inl o.2.1)), (q_ways_queue, .inl (g 0, 64, .inl o.2.2.1)), (q_ways_lows, .inl (g 0, 64, .inl o.2.2.2))] := by
  refine z_wr_start (by decide) (Nat.le_of_ble_eq_true rfl) ?_
  intro p e s m args below meth c Q A X hr hQ hA
  refine z_lv (lv' := [(0, .ref q_this)]) rfl ?_
  have H40 : ∀ (a_ways_steps : Nat → Int32) (a_ways_queue : Nat → Int32) (a_ways_lows : Nat → Int32), J_X11_isWell_40 f_town_prankHouse f_town_bells f_town_echoes f_town_houses_size a_town_houses_cells a_town_houses_froms a_town_houses_tos f_town_posts_size a_town_posts_cells a_town_posts_tolds a_town_blocks a_town_kinds a_ways_steps a_ways_queue a_ways_lows = some o → Z p l e { frames := 6, cells := 0, slots := 0, locals := 152 } s m args below meth c Q 1 0 0 (IW D A s [(q_this, .inr (11, [.ref q_town, .ref q_ahead, .ref q_kept, .int f_isKept, .ref q_past, .ref q_reason, .ref q_orders, .ref q_ways, .ref q_sheet])), (q_town, .inr (9, [.ref q_town_houses, .ref q_town_halls, .ref q_town_posts, .ref q_town_blocks, .ref q_town_kinds, .int f_town_hour, .int f_town_day, .int f_town_prankHouse, .int f_town_bells, .int f_town_echoes, .int f_town_bellPranks])), (q_town_houses, .inr (3, [.int f_town_houses_size, .ref q_town_houses_cells, .ref q_town_houses_froms, .ref q_town_houses_tos, .ref q_town_houses_rings, .ref q_town_houses_pranks])), (q_town_houses_cells, .inl (g 0, 10, .inl a_town_houses_cells)), (q_town_houses_froms, .inl (g 0, 10, .inl a_town_houses_froms)), (q_town_houses_tos, .inl (g 0, 10, .inl a_town_houses_tos)), (q_town_posts, .inr (6, [.int f_town_posts_size, .ref q_town_posts_cells, .ref q_town_posts_tolds])), (q_town_posts_cells, .inl (g 0, 4, .inl a_town_posts_cells)), (q_town_posts_tolds, .inl (g 0, 4, .inl a_town_posts_tolds)), (q_town_blocks, .inl (g 0, 64, .inl a_town_blocks)), (q_town_kinds, .inl (g 0, 4, .inl a_town_kinds)), (q_ways, .inr (10, [.ref q_ways_steps, .ref q_ways_queue, .ref q_ways_lows, .ref q_ways_stops, .int f_ways_stopCount, .int f_ways_stepSum])), (q_ways_steps, .inl (g 0, 64, .inl a_ways_steps)), (q_ways_queue, .inl (g 0, 64, .inl a_ways_queue)), (q_ways_lows, .inl (g 0, 64, .inl a_ways_lows))]) 40 [(0, .ref q_this)] [] := by
    intro a_ways_steps a_ways_queue a_ways_lows h
    refine z_aload_n X 0 dX11_isWell_40 rfl rfl ?_
    refine z_get (q0 := 0) (k := 7) (ci := 11) X IW_P iw_X11 rfl qf_X11_X11_ways (by decide) dX11_isWell_41 rfl rfl ?_
    refine z_aload_n X 0 dX11_isWell_44 rfl rfl ?_
    refine z_get (q0 := 0) (k := 0) (ci := 11) X IW_P iw_X11 rfl qf_X11_X11_town (by decide) dX11_isWell_45 rfl rfl ?_
    obtain ⟨o5, e6, h⟩ := bnd_p h
    refine z_wrV (rest := []) (q0 := 11) (ci := 10) (ws' := [(q_this, .inr (11, [.ref q_town, .ref q_ahead, .ref q_kept, .int f_isKept, .ref q_past, .ref q_reason, .ref q_orders, .ref q_ways, .ref q_sheet])), (q_town, .inr (9, [.ref q_town_houses, .ref q_town_halls, .ref q_town_posts, .ref q_town_blocks, .ref q_town_kinds, .int f_town_hour, .int f_town_day, .int f_town_prankHouse, .int f_town_bells, .int f_town_echoes, .int f_town_bellPranks])), (q_town_houses, .inr (3, [.int f_town_houses_size, .ref q_town_houses_cells, .ref q_town_houses_froms, .ref q_town_houses_tos, .ref q_town_houses_rings, .ref q_town_houses_pranks])), (q_town_houses_cells, .inl (g 0, 10, .inl a_town_houses_cells)), (q_town_houses_froms, .inl (g 0, 10, .inl a_town_houses_froms)), (q_town_houses_tos, .inl (g 0, 10, .inl a_town_houses_tos)), (q_town_posts, .inr (6, [.int f_town_posts_size, .ref q_town_posts_cells, .ref q_town_posts_tolds])), (q_town_posts_cells, .inl (g 0, 4, .inl a_town_posts_cells)), (q_town_posts_tolds, .inl (g 0, 4, .inl a_town_posts_tolds)), (q_town_blocks, .inl (g 0, 64, .inl a_town_blocks)), (q_town_kinds, .inl (g 0, 4, .inl a_town_kinds)), (q_ways, .inr (10, [.ref q_ways_steps, .ref q_ways_queue, .ref q_ways_lows, .ref q_ways_stops, .int f_ways_stopCount, .int f_ways_stepSum])), (q_ways_steps, .inl (g 0, 64, .inl o5.2.1)), (q_ways_queue, .inl (g 0, 64, .inl o5.2.2.1)), (q_ways_lows, .inl (g 0, 64, .inl o5.2.2.2))]) (wr := [(q_this, .inr (11, [.ref q_town, .ref q_ahead, .ref q_kept, .int f_isKept, .ref q_past, .ref q_reason, .ref q_orders, .ref q_ways, .ref q_sheet])), (q_town_houses_froms, .inl (g 0, 10, .inl a_town_houses_froms)), (q_town_houses_tos, .inl (g 0, 10, .inl a_town_houses_tos)), (q_town_posts, .inr (6, [.int f_town_posts_size, .ref q_town_posts_cells, .ref q_town_posts_tolds])), (q_town_posts_cells, .inl (g 0, 4, .inl a_town_posts_cells)), (q_town_posts_tolds, .inl (g 0, 4, .inl a_town_posts_tolds)), (q_town_kinds, .inl (g 0, 4, .inl a_town_kinds))]) (as := [q_this, q_town, q_town_houses, q_town_houses_cells, q_town_houses_froms, q_town_houses_tos, q_town_posts, q_town_posts_cells, q_town_posts_tolds, q_town_blocks, q_town_kinds, q_ways, q_ways_steps, q_ways_queue, q_ways_lows]) X k_X10_areWaysAlike (c_X10_areWaysAlike l D g q_ways q_ways_steps q_ways_queue q_ways_lows q_ways_stops q_town q_town_houses q_town_halls q_town_posts q_town_blocks q_town_kinds q_town_houses_cells q_town_houses_froms q_town_houses_tos q_town_houses_rings q_town_houses_pranks f_ways_stopCount f_ways_stepSum a_ways_steps a_ways_queue a_ways_lows f_town_hour f_town_day f_town_prankHouse f_town_bells f_town_echoes f_town_bellPranks f_town_houses_size a_town_houses_cells a_town_blocks o5 e6) ql_X11_X10_areWaysAlike dX11_isWell_48 [11, 12, 13, 14, 1, 2, 3, 9] [0, 4, 5, 6, 7, 8, 10] ⟨rfl, rfl, rfl, rfl, rfl, rfl, rfl, rfl⟩ rfl rfl rfl rfl rfl ⟨Nat.le_of_ble_eq_true rfl, Nat.le_of_ble_eq_true rfl, rfl, rfl, Nat.le_of_ble_eq_true rfl, Nat.le_of_ble_eq_true rfl⟩ (Nat.le_of_ble_eq_true rfl) ?_
    refine z_if_eq X 68 dX11_isWell_51 (by decide) h (fun _ h => ?_) (fun _ h => ?_)
    · refine z_iconst X (0 : Int32) dX11_isWell_68 (by decide) ?_
      cases h
      exact z_zretW X hQ hA hr dX11_isWell_69 rfl
    · refine z_aload_n X 0 dX11_isWell_54 rfl rfl ?_
      refine z_get (q0 := 0) (k := 0) (ci := 11) X IW_P iw_X11 rfl qf_X11_X11_town (by decide) dX11_isWell_55 rfl rfl ?_
      obtain ⟨o7, e8, h⟩ := bnd_p h
      refine z_rdV (rest := []) (q0 := 1) (ci := 9) X IW_P k_X9_areRingsComplete (c_X9_areRingsComplete l D g q_town q_town_houses q_town_halls q_town_posts q_town_blocks q_town_kinds f_town_hour f_town_day f_town_prankHouse f_town_bells f_town_echoes f_town_bellPranks a_town_kinds o7 e8) ql_X11_X9_areRingsComplete dX11_isWell_58 [1, 10] rfl rfl rfl rfl rfl rfl ⟨Nat.le_of_ble_eq_true rfl, Nat.le_of_ble_eq_true rfl, rfl, rfl, Nat.le_of_ble_eq_true rfl, Nat.le_of_ble_eq_true rfl⟩ (Nat.le_of_ble_eq_true rfl) ?_
      refine z_if_eq X 68 dX11_isWell_61 (by decide) h (fun _ h => ?_) (fun _ h => ?_)
      · refine z_iconst X (0 : Int32) dX11_isWell_68 (by decide) ?_
        cases h
        exact z_zretW X hQ hA hr dX11_isWell_69 rfl
      · refine z_iconst X (1 : Int32) dX11_isWell_64 (by decide) ?_
        refine z_goto X 69 dX11_isWell_65 (by decide) ?_
        cases h
        exact z_zretW X hQ hA hr dX11_isWell_69 rfl
  refine z_aload_n X 0 dX11_isWell_0 rfl rfl ?_
  refine z_get (q0 := 0) (k := 0) (ci := 11) X IW_P iw_X11 rfl qf_X11_X11_town (by decide) dX11_isWell_1 rfl rfl ?_
  refine z_getN (q0 := 1) (k := 0) (ci := 9) X IW_P iw_X9 rfl qfN_X11_X9_houses (by decide) dX11_isWell_4 rfl rfl ?_
  obtain ⟨o1, e2, h⟩ := bnd_p h
  refine z_rdV (rest := []) (q0 := 2) (ci := 3) X IW_P k_X2_areSleepersAlike (c_X2_areSleepersAlike l D g q_town_houses q_town_houses_cells q_town_houses_froms q_town_houses_tos q_town_houses_rings q_town_houses_pranks f_town_houses_size a_town_houses_froms a_town_houses_tos o1 e2) ql_X11_X2_areSleepersAlike dX11_isWell_7 [2, 4, 5] rfl rfl rfl rfl rfl rfl ⟨Nat.le_of_ble_eq_true rfl, Nat.le_of_ble_eq_true rfl, rfl, rfl, Nat.le_of_ble_eq_true rfl, Nat.le_of_ble_eq_true rfl⟩ (Nat.le_of_ble_eq_true rfl) ?_
  refine z_if_eq X 68 dX11_isWell_10 (by decide) h (fun _ h => ?_) (fun _ h => ?_)
  · refine z_iconst X (0 : Int32) dX11_isWell_68 (by decide) ?_
    cases h
    exact z_zretW X hQ hA hr dX11_isWell_69 rfl
  · refine z_aload_n X 0 dX11_isWell_13 rfl rfl ?_
    refine z_get (q0 := 0) (k := 0) (ci := 11) X IW_P iw_X11 rfl qf_X11_X11_town (by decide) dX11_isWell_14 rfl rfl ?_
    obtain ⟨o3, e4, h⟩ := bnd_p h
    refine z_rdV (rest := []) (q0 := 1) (ci := 9) X IW_P k_X9_hasPrank (c_X9_hasPrank l D g q_town q_town_houses q_town_halls q_town_posts q_town_blocks q_town_kinds f_town_hour f_town_day f_town_prankHouse f_town_bells f_town_echoes f_town_bellPranks o3 e4) ql_X11_X9_hasPrank dX11_isWell_17 [1] rfl rfl rfl rfl rfl rfl ⟨Nat.le_of_ble_eq_true rfl, Nat.le_of_ble_eq_true rfl, rfl, rfl, Nat.le_of_ble_eq_true rfl, Nat.le_of_ble_eq_true rfl⟩ (Nat.le_of_ble_eq_true rfl) ?_
    refine z_if_eq X 40 dX11_isWell_20 (by decide) h (fun _ h => ?_) (fun _ h => ?_)
    · exact H40 a_ways_steps a_ways_queue a_ways_lows h
    · refine z_aload_n X 0 dX11_isWell_23 rfl rfl ?_
      refine z_get (q0 := 0) (k := 0) (ci := 11) X IW_P iw_X11 rfl qf_X11_X11_town (by decide) dX11_isWell_24 rfl rfl ?_
      obtain ⟨o9, e10, h⟩ := bnd_p h
      refine z_rdV (rest := []) (q0 := 1) (ci := 9) X IW_P k_X9_countFits (c_X9_countFits l D g q_town q_town_houses q_town_halls q_town_posts q_town_blocks q_town_kinds q_town_posts_cells q_town_posts_tolds f_town_hour f_town_day f_town_prankHouse f_town_bells f_town_echoes f_town_bellPranks f_town_posts_size a_town_posts_cells a_town_posts_tolds a_town_blocks o9 e10) ql_X11_X9_countFits dX11_isWell_27 [1, 6, 7, 8, 9] rfl rfl rfl rfl rfl rfl ⟨Nat.le_of_ble_eq_true rfl, Nat.le_of_ble_eq_true rfl, rfl, rfl, Nat.le_of_ble_eq_true rfl, Nat.le_of_ble_eq_true rfl⟩ (Nat.le_of_ble_eq_true rfl) ?_
      refine z_aload_n X 0 dX11_isWell_30 rfl rfl ?_
      refine z_get (q0 := 0) (k := 0) (ci := 11) X IW_P iw_X11 rfl qf_X11_X11_town (by decide) dX11_isWell_31 rfl rfl ?_
      obtain ⟨o11, e12, h⟩ := bnd_p h
      refine z_rdV (rest := [.int o9]) (q0 := 1) (ci := 9) X IW_P k_X9_countFitsAround (c_X9_countFitsAround l D g q_town q_town_houses q_town_halls q_town_posts q_town_blocks q_town_kinds q_town_posts_cells q_town_posts_tolds f_town_hour f_town_day f_town_prankHouse f_town_bells f_town_echoes f_town_bellPranks f_town_posts_size a_town_posts_cells a_town_posts_tolds a_town_blocks o11 e12) ql_X11_X9_countFitsAround dX11_isWell_34 [1, 6, 7, 8, 9] rfl rfl rfl rfl rfl rfl ⟨Nat.le_of_ble_eq_true rfl, Nat.le_of_ble_eq_true rfl, rfl, rfl, Nat.le_of_ble_eq_true rfl, Nat.le_of_ble_eq_true rfl⟩ (Nat.le_of_ble_eq_true rfl) ?_
      refine z_icmp_ne X 68 dX11_isWell_37 (by decide) h (fun _ h => ?_) (fun _ h => ?_)
      · exact H40 a_ways_steps a_ways_queue a_ways_lows h
      · refine z_iconst X (0 : Int32) dX11_isWell_68 (by decide) ?_
        cases h
        exact z_zretW X hQ hA hr dX11_isWell_69 rfl

def L_X2_sleepSum_4 (f_size : Int32) (a_froms : Nat → Int32) (a_tos : Nat → Int32) : Nat → Int32 → Int32 → Option (Int32)
  | 0, _, _ => none
  | _n + 1, x1, x2 =>
    brn (f_size ≤ x2) (some (x1)) (bnd (F_X2_sleepAt x2 a_froms a_tos) (fun o1 => L_X2_sleepSum_4 f_size a_froms a_tos _n (x1 + o1) (x2 + 1)))

def F_X2_sleepSum (f_size : Int32) (a_froms : Nat → Int32) (a_tos : Nat → Int32) : Option (Int32) :=
  L_X2_sleepSum_4 f_size a_froms a_tos 100 (0 : Int32) (0 : Int32)
theorem dX2_sleepSum_0 : decode cX2_sleepSum 0 = .ok (.iconst 0, 1) := by decide +kernel
theorem dX2_sleepSum_1 : decode cX2_sleepSum 1 = .ok (.istore_n 1, 1) := by decide +kernel
theorem dX2_sleepSum_2 : decode cX2_sleepSum 2 = .ok (.iconst 0, 1) := by decide +kernel
theorem dX2_sleepSum_3 : decode cX2_sleepSum 3 = .ok (.istore_n 2, 1) := by decide +kernel
theorem dX2_sleepSum_4 : decode cX2_sleepSum 4 = .ok (.iload_n 2, 1) := by decide +kernel
theorem dX2_sleepSum_5 : decode cX2_sleepSum 5 = .ok (.aload_n 0, 1) := by decide +kernel
theorem dX2_sleepSum_6 : decode cX2_sleepSum 6 = .ok (.getfield 27, 3) := by decide +kernel
theorem dX2_sleepSum_9 : decode cX2_sleepSum 9 = .ok (.if_icmp .ge 17, 3) := by decide +kernel
theorem dX2_sleepSum_12 : decode cX2_sleepSum 12 = .ok (.iload_n 1, 1) := by decide +kernel
theorem dX2_sleepSum_13 : decode cX2_sleepSum 13 = .ok (.aload_n 0, 1) := by decide +kernel
theorem dX2_sleepSum_14 : decode cX2_sleepSum 14 = .ok (.iload_n 2, 1) := by decide +kernel
theorem dX2_sleepSum_15 : decode cX2_sleepSum 15 = .ok (.invokevirtual 62, 3) := by decide +kernel
theorem dX2_sleepSum_18 : decode cX2_sleepSum 18 = .ok (.iadd, 1) := by decide +kernel
theorem dX2_sleepSum_19 : decode cX2_sleepSum 19 = .ok (.istore_n 1, 1) := by decide +kernel
theorem dX2_sleepSum_20 : decode cX2_sleepSum 20 = .ok (.iinc 2 1, 3) := by decide +kernel
theorem dX2_sleepSum_23 : decode cX2_sleepSum 23 = .ok (.goto (-19), 3) := by decide +kernel
theorem dX2_sleepSum_26 : decode cX2_sleepSum 26 = .ok (.iload_n 1, 1) := by decide +kernel
theorem dX2_sleepSum_27 : decode cX2_sleepSum 27 = .ok (.ireturn, 1) := by decide +kernel
theorem k_X2_sleepSum : cardV yX2_sleepSum (Cond.code yX2_sleepSum cX2_sleepSum 3 (some .int)) 0 := ⟨⟨qi_X2_sleepSum, qv_X2_sleepSum⟩, qc_X2_sleepSum, qn_X2, by decide +kernel, by decide +kernel, by decide +kernel⟩
set_option maxHeartbeats 4000000 in
set_option maxRecDepth 100000 in
theorem c_X2_sleepSum (l : Launch) (D : va_G) (g : Nat → ClassId) (q_this q_cells q_froms q_tos q_rings q_pranks : Nat) (f_size : Int32) (a_froms : Nat → Int32) (a_tos : Nat → Int32) (o : Int32) (h : F_X2_sleepSum f_size a_froms a_tos = some o) : MR l yX2_sleepSum (Cond.code yX2_sleepSum cX2_sleepSum 3 (some .int)) { frames := 3, cells := 0, slots := 0, locals := 63 } D g [.ref q_this] [(q_this, .inr (3, [.int f_size, .ref q_cells, .ref q_froms, .ref q_tos, .ref q_rings, .ref q_pranks])), (q_froms, .inl (g 0, 10, .inl a_froms)), (q_tos, .inl (g 0, 10, .inl a_tos))] (some (.int o)) := by
  refine z_rd_start (by decide) (Nat.le_of_ble_eq_true rfl) ?_
  intro p e s m args below meth c Q X hr hQ
  refine z_lv (lv' := [(0, .ref q_this)]) rfl ?_
  have H4 : ∀ (n : Nat) (x1 : Int32) (x2 : Int32), L_X2_sleepSum_4 f_size a_froms a_tos  n x1 x2 = some o → Z p l e { frames := 3, cells := 0, slots := 0, locals := 63 } s m args below meth c Q 3 0 0 (IR D [(q_this, .inr (3, [.int f_size, .ref q_cells, .ref q_froms, .ref q_tos, .ref q_rings, .ref q_pranks])), (q_froms, .inl (g 0, 10, .inl a_froms)), (q_tos, .inl (g 0, 10, .inl a_tos))] s) 4 [(0, .ref q_this), (1, .int x1), (2, .int x2)] [] := by
    intro n
    induction n with
    | zero => intro x1 x2 h; cases h
    | succ n4 ih4 =>
      intro x1 x2 h
      refine z_iload_n X 2 dX2_sleepSum_4 rfl rfl ?_
      refine z_aload_n X 0 dX2_sleepSum_5 rfl rfl ?_
      refine z_get (q0 := 0) (k := 0) (ci := 3) X IR_P iw_X2 rfl qf_X2_X2_size (by decide) dX2_sleepSum_6 rfl rfl ?_
      refine z_icmp_ge X 26 dX2_sleepSum_9 (by decide) h (fun _ h => ?_) (fun _ h => ?_)
      · refine z_iload_n X 1 dX2_sleepSum_26 rfl rfl ?_
        exact z_iretR X hQ hr dX2_sleepSum_27 h
      · refine z_iload_n X 1 dX2_sleepSum_12 rfl rfl ?_
        refine z_aload_n X 0 dX2_sleepSum_13 rfl rfl ?_
        refine z_iload_n X 2 dX2_sleepSum_14 rfl rfl ?_
        obtain ⟨o1, e2, h⟩ := bnd_p h
        refine z_rdV (rest := [.int x1]) (q0 := 0) (ci := 3) X IR_P k_X2_sleepAt (c_X2_sleepAt l D g q_this q_cells q_froms q_tos q_rings q_pranks x2 f_size a_froms a_tos o1 e2) ql_X2_X2_sleepAt dX2_sleepSum_15 [0, 1, 2] rfl rfl rfl rfl rfl rfl ⟨Nat.le_of_ble_eq_true rfl, Nat.le_of_ble_eq_true rfl, rfl, rfl, Nat.le_of_ble_eq_true rfl, Nat.le_of_ble_eq_true rfl⟩ (Nat.le_of_ble_eq_true rfl) ?_
        refine z_iadd X dX2_sleepSum_18 ?_
        refine z_istore_n X [(1, .int (x1 + o1)), (0, .ref q_this), (2, .int x2)] dX2_sleepSum_19 rfl (by decide) rfl ?_
        refine z_iinc X 2 [(2, .int (x2 + 1)), (1, .int (x1 + o1)), (0, .ref q_this)] dX2_sleepSum_20 rfl rfl (by decide) rfl ?_
        refine z_goto X 4 dX2_sleepSum_23 (by decide) ?_
        refine z_sub (lv' := [(0, .ref q_this), (1, .int (x1 + o1)), (2, .int (x2 + 1))]) [2, 1, 0] rfl ?_
        exact ih4 (x1 + o1) (x2 + 1) h
  refine z_iconst X (0 : Int32) dX2_sleepSum_0 (by decide) ?_
  refine z_istore_n X [(1, .int (0 : Int32)), (0, .ref q_this)] dX2_sleepSum_1 rfl (by decide) rfl ?_
  refine z_iconst X (0 : Int32) dX2_sleepSum_2 (by decide) ?_
  refine z_istore_n X [(2, .int (0 : Int32)), (1, .int (0 : Int32)), (0, .ref q_this)] dX2_sleepSum_3 rfl (by decide) rfl ?_
  refine z_sub (lv' := [(0, .ref q_this), (1, .int (0 : Int32)), (2, .int (0 : Int32))]) [2, 1, 0] rfl ?_
  exact H4 100 (0 : Int32) (0 : Int32) h

def F_X11_save (f_town_hour : Int32) (f_town_day : Int32) (f_town_prankHouse : Int32) (f_town_bells : Int32) (f_town_echoes : Int32) (f_town_bellPranks : Int32) (f_town_houses_size : Int32) (a_town_houses_cells : Nat → Int32) (a_town_houses_froms : Nat → Int32) (a_town_houses_tos : Nat → Int32) (a_town_houses_rings : Nat → Int32) (a_town_houses_pranks : Nat → Int32) (f_town_halls_size : Int32) (a_town_halls_rows : Nat → Int32) (a_town_halls_firsts : Nat → Int32) (a_town_halls_lasts : Nat → Int32) (f_town_posts_size : Int32) (a_town_posts_cells : Nat → Int32) (a_town_posts_tolds : Nat → Int32) (a_town_blocks : Nat → Int32) (a_town_kinds : Nat → Int32) (f_isKept : Int32) (f_kept_hour : Int32) (f_kept_day : Int32) (f_kept_prankHouse : Int32) (f_kept_bells : Int32) (f_kept_echoes : Int32) (f_kept_bellPranks : Int32) (f_kept_houses_size : Int32) (a_kept_houses_cells : Nat → Int32) (a_kept_houses_froms : Nat → Int32) (a_kept_houses_tos : Nat → Int32) (a_kept_houses_rings : Nat → Int32) (a_kept_houses_pranks : Nat → Int32) (f_kept_halls_size : Int32) (a_kept_halls_rows : Nat → Int32) (a_kept_halls_firsts : Nat → Int32) (a_kept_halls_lasts : Nat → Int32) (f_kept_posts_size : Int32) (a_kept_posts_cells : Nat → Int32) (a_kept_posts_tolds : Nat → Int32) (a_kept_blocks : Nat → Int32) (a_kept_kinds : Nat → Int32) : Option (Int32 × Int32 × Int32 × Int32 × Int32 × Int32 × Int32 × Int32 × Int32 × (Nat → Int32) × (Nat → Int32) × (Nat → Int32) × (Nat → Int32) × (Nat → Int32) × Int32 × (Nat → Int32) × (Nat → Int32) × (Nat → Int32) × Int32 × (Nat → Int32) × (Nat → Int32) × (Nat → Int32) × (Nat → Int32)) :=
  bnd (F_X9_take f_town_hour f_town_day f_town_prankHouse f_town_bells f_town_echoes f_town_bellPranks f_town_houses_size a_town_houses_cells a_town_houses_froms a_town_houses_tos a_town_houses_rings a_town_houses_pranks f_town_halls_size a_town_halls_rows a_town_halls_firsts a_town_halls_lasts f_town_posts_size a_town_posts_cells a_town_posts_tolds a_town_blocks a_town_kinds f_kept_hour f_kept_day f_kept_prankHouse f_kept_bells f_kept_echoes f_kept_bellPranks f_kept_houses_size a_kept_houses_cells a_kept_houses_froms a_kept_houses_tos a_kept_houses_rings a_kept_houses_pranks f_kept_halls_size a_kept_halls_rows a_kept_halls_firsts a_kept_halls_lasts f_kept_posts_size a_kept_posts_cells a_kept_posts_tolds a_kept_blocks a_kept_kinds) (fun o1 => bnd (F_X2_size f_town_houses_size) (fun o3 => some (o3, (1 : Int32), o1.1, o1.2.1, o1.2.2.1, o1.2.2.2.1, o1.2.2.2.2.1, o1.2.2.2.2.2.1, o1.2.2.2.2.2.2.1, o1.2.2.2.2.2.2.2.1, o1.2.2.2.2.2.2.2.2.1, o1.2.2.2.2.2.2.2.2.2.1, o1.2.2.2.2.2.2.2.2.2.2.1, o1.2.2.2.2.2.2.2.2.2.2.2.1, o1.2.2.2.2.2.2.2.2.2.2.2.2.1, o1.2.2.2.2.2.2.2.2.2.2.2.2.2.1, o1.2.2.2.2.2.2.2.2.2.2.2.2.2.2.1, o1.2.2.2.2.2.2.2.2.2.2.2.2.2.2.2.1, o1.2.2.2.2.2.2.2.2.2.2.2.2.2.2.2.2.1, o1.2.2.2.2.2.2.2.2.2.2.2.2.2.2.2.2.2.1, o1.2.2.2.2.2.2.2.2.2.2.2.2.2.2.2.2.2.2.1, o1.2.2.2.2.2.2.2.2.2.2.2.2.2.2.2.2.2.2.2.1, o1.2.2.2.2.2.2.2.2.2.2.2.2.2.2.2.2.2.2.2.2)))
theorem dX11_save_0 : decode cX11_save 0 = .ok (.aload_n 0, 1) := by decide +kernel
theorem dX11_save_1 : decode cX11_save 1 = .ok (.getfield 19, 3) := by decide +kernel
theorem dX11_save_4 : decode cX11_save 4 = .ok (.aload_n 0, 1) := by decide +kernel
theorem dX11_save_5 : decode cX11_save 5 = .ok (.getfield 10, 3) := by decide +kernel
theorem dX11_save_8 : decode cX11_save 8 = .ok (.invokevirtual 297, 3) := by decide +kernel
theorem dX11_save_11 : decode cX11_save 11 = .ok (.aload_n 0, 1) := by decide +kernel
theorem dX11_save_12 : decode cX11_save 12 = .ok (.iconst 1, 1) := by decide +kernel
theorem dX11_save_13 : decode cX11_save 13 = .ok (.putfield 22, 3) := by decide +kernel
theorem dX11_save_16 : decode cX11_save 16 = .ok (.aload_n 0, 1) := by decide +kernel
theorem dX11_save_17 : decode cX11_save 17 = .ok (.getfield 10, 3) := by decide +kernel
theorem dX11_save_20 : decode cX11_save 20 = .ok (.getfield 73, 3) := by decide +kernel
theorem dX11_save_23 : decode cX11_save 23 = .ok (.invokevirtual 344, 3) := by decide +kernel
theorem dX11_save_26 : decode cX11_save 26 = .ok (.ireturn, 1) := by decide +kernel
theorem k_X11_save : cardV yX11_save (Cond.code yX11_save cX11_save 1 (some .int)) 0 := ⟨⟨qi_X11_save, qv_X11_save⟩, qc_X11_save, qn_X11, by decide +kernel, by decide +kernel, by decide +kernel⟩
set_option maxHeartbeats 4000000 in
set_option maxRecDepth 100000 in
theorem c_X11_save (l : Launch) (D : va_G) (g : Nat → ClassId) (q_this q_town q_ahead q_kept q_past q_reason q_orders q_ways q_sheet q_town_houses q_town_halls q_town_posts q_town_blocks q_town_kinds q_town_houses_cells q_town_houses_froms q_town_houses_tos q_town_houses_rings q_town_houses_pranks q_town_halls_rows q_town_halls_firsts q_town_halls_lasts q_town_posts_cells q_town_posts_tolds q_kept_houses q_kept_halls q_kept_posts q_kept_blocks q_kept_kinds q_kept_houses_cells q_kept_houses_froms q_kept_houses_tos q_kept_houses_rings q_kept_houses_pranks q_kept_halls_rows q_kept_halls_firsts q_kept_halls_lasts q_kept_posts_cells q_kept_posts_tolds : Nat) (f_isKept : Int32) (f_town_hour : Int32) (f_town_day : Int32) (f_town_prankHouse : Int32) (f_town_bells : Int32) (f_town_echoes : Int32) (f_town_bellPranks : Int32) (f_town_houses_size : Int32) (a_town_houses_cells : Nat → Int32) (a_town_houses_froms : Nat → Int32) (a_town_houses_tos : Nat → Int32) (a_town_houses_rings : Nat → Int32) (a_town_houses_pranks : Nat → Int32) (f_town_halls_size : Int32) (a_town_halls_rows : Nat → Int32) (a_town_halls_firsts : Nat → Int32) (a_town_halls_lasts : Nat → Int32) (f_town_posts_size : Int32) (a_town_posts_cells : Nat → Int32) (a_town_posts_tolds : Nat → Int32) (a_town_blocks : Nat → Int32) (a_town_kinds : Nat → Int32) (f_kept_hour : Int32) (f_kept_day : Int32) (f_kept_prankHouse : Int32) (f_kept_bells : Int32) (f_kept_echoes : Int32) (f_kept_bellPranks : Int32) (f_kept_houses_size : Int32) (a_kept_houses_cells : Nat → Int32) (a_kept_houses_froms : Nat → Int32) (a_kept_houses_tos : Nat → Int32) (a_kept_houses_rings : Nat → Int32) (a_kept_houses_pranks : Nat → Int32) (f_kept_halls_size : Int32) (a_kept_halls_rows : Nat → Int32) (a_kept_halls_firsts : Nat → Int32) (a_kept_halls_lasts : Nat → Int32) (f_kept_posts_size : Int32) (a_kept_posts_cells : Nat → Int32) (a_kept_posts_tolds : Nat → Int32) (a_kept_blocks : Nat → Int32) (a_kept_kinds : Nat → Int32) (o : Int32 × Int32 × Int32 × Int32 × Int32 × Int32 × Int32 × Int32 × Int32 × (Nat → Int32) × (Nat → Int32) × (Nat → Int32) × (Nat → Int32) × (Nat → Int32) × Int32 × (Nat → Int32) × (Nat → Int32) × (Nat → Int32) × Int32 × (Nat → Int32) × (Nat → Int32) × (Nat → Int32) × (Nat → Int32)) (h : F_X11_save f_town_hour f_town_day f_town_prankHouse f_town_bells f_town_echoes f_town_bellPranks f_town_houses_size a_town_houses_cells a_town_houses_froms a_town_houses_tos a_town_houses_rings a_town_houses_pranks f_town_halls_size a_town_halls_rows a_town_halls_firsts a_town_halls_lasts f_town_posts_size a_town_posts_cells a_town_posts_tolds a_town_blocks a_town_kinds f_isKept f_kept_hour f_kept_day f_kept_prankHouse f_kept_bells f_kept_echoes f_kept_bellPranks f_kept_houses_size a_kept_houses_cells a_kept_houses_froms a_kept_houses_tos a_kept_houses_rings a_kept_houses_pranks f_kept_halls_size a_kept_halls_rows a_kept_halls_firsts a_kept_halls_lasts f_kept_posts_size a_kept_posts_cells a_kept_posts_tolds a_kept_blocks a_kept_kinds = some o) : MW l yX11_save (Cond.code yX11_save cX11_save 1 (some .int)) { frames := 4, cells := 0, slots := 0, locals := 103 } D g [.ref q_this] [(q_this, .inr (11, [.ref q_town, .ref q_ahead, .ref q_kept, .int f_isKept, .ref q_past, .ref q_reason, .ref q_orders, .ref q_ways, .ref q_sheet])), (q_town, .inr (9, [.ref q_town_houses, .ref q_town_halls, .ref q_town_posts, .ref q_town_blocks, .ref q_town_kinds, .int f_town_hour, .int f_town_day, .int f_town_prankHouse, .int f_town_bells, .int f_town_echoes, .int f_town_bellPranks])), (q_town_houses, .inr (3, [.int f_town_houses_size, .ref q_town_houses_cells, .ref q_town_houses_froms, .ref q_town_houses_tos, .ref q_town_houses_rings, .ref q_town_houses_pranks])), (q_town_houses_cells, .inl (g 0, 10, .inl a_town_houses_cells)), (q_town_houses_froms, .inl (g 0, 10, .inl a_town_houses_froms)), (q_town_houses_tos, .inl (g 0, 10, .inl a_town_houses_tos)), (q_town_houses_rings, .inl (g 0, 10, .inl a_town_houses_rings)), (q_town_houses_pranks, .inl (g 0, 10, .inl a_town_houses_pranks)), (q_town_halls, .inr (2, [.int f_town_halls_size, .ref q_town_halls_rows, .ref q_town_halls_firsts, .ref q_town_halls_lasts])), (q_town_halls_rows, .inl (g 0, 4, .inl a_town_halls_rows)), (q_town_halls_firsts, .inl (g 0, 4, .inl a_town_halls_firsts)), (q_town_halls_lasts, .inl (g 0, 4, .inl a_town_halls_lasts)), (q_town_posts, .inr (6, [.int f_town_posts_size, .ref q_town_posts_cells, .ref q_town_posts_tolds])), (q_town_posts_cells, .inl (g 0, 4, .inl a_town_posts_cells)), (q_town_posts_tolds, .inl (g 0, 4, .inl a_town_posts_tolds)), (q_town_blocks, .inl (g 0, 64, .inl a_town_blocks)), (q_town_kinds, .inl (g 0, 4, .inl a_town_kinds)), (q_kept, .inr (9, [.ref q_kept_houses, .ref q_kept_halls, .ref q_kept_posts, .ref q_kept_blocks, .ref q_kept_kinds, .int f_kept_hour, .int f_kept_day, .int f_kept_prankHouse, .int f_kept_bells, .int f_kept_echoes, .int f_kept_bellPranks])), (q_kept_houses, .inr (3, [.int f_kept_houses_size, .ref q_kept_houses_cells, .ref q_kept_houses_froms, .ref q_kept_houses_tos, .ref q_kept_houses_rings, .ref q_kept_houses_pranks])), (q_kept_houses_cells, .inl (g 0, 10, .inl a_kept_houses_cells)), (q_kept_houses_froms, .inl (g 0, 10, .inl a_kept_houses_froms)), (q_kept_houses_tos, .inl (g 0, 10, .inl a_kept_houses_tos)), (q_kept_houses_rings, .inl (g 0, 10, .inl a_kept_houses_rings)), (q_kept_houses_pranks, .inl (g 0, 10, .inl a_kept_houses_pranks)), (q_kept_halls, .inr (2, [.int f_kept_halls_size, .ref q_kept_halls_rows, .ref q_kept_halls_firsts, .ref q_kept_halls_lasts])), (q_kept_halls_rows, .inl (g 0, 4, .inl a_kept_halls_rows)), (q_kept_halls_firsts, .inl (g 0, 4, .inl a_kept_halls_firsts)), (q_kept_halls_lasts, .inl (g 0, 4, .inl a_kept_halls_lasts)), (q_kept_posts, .inr (6, [.int f_kept_posts_size, .ref q_kept_posts_cells, .ref q_kept_posts_tolds])), (q_kept_posts_cells, .inl (g 0, 4, .inl a_kept_posts_cells)), (q_kept_posts_tolds, .inl (g 0, 4, .inl a_kept_posts_tolds)), (q_kept_blocks, .inl (g 0, 64, .inl a_kept_blocks)), (q_kept_kinds, .inl (g 0, 4, .inl a_kept_kinds))] (some (.int o.1)) [(q_this, .inr (11, [.ref q_town, .ref q_ahead, .ref q_kept, .int o.2.1, .ref q_past, .ref q_reason, .ref q_orders, .ref q_ways, .ref q_sheet])), (q_town, .inr (9, [.ref q_town_houses, .ref q_town_halls, .ref q_town_posts, .ref q_town_blocks, .ref q_town_kinds, .int f_town_hour, .int f_town_day, .int f_town_prankHouse, .int f_town_bells, .int f_town_echoes, .int f_town_bellPranks])), (q_town_houses, .inr (3, [.int f_town_houses_size, .ref q_town_houses_cells, .ref q_town_houses_froms, .ref q_town_houses_tos, .ref q_town_houses_rings, .ref q_town_houses_pranks])), (q_town_houses_cells, .inl (g 0, 10, .inl a_town_houses_cells)), (q_town_houses_froms, .inl (g 0, 10, .inl a_town_houses_froms)), (q_town_houses_tos, .inl (g 0, 10, .inl a_town_houses_tos)), (q_town_houses_rings, .inl (g 0, 10, .inl a_town_houses_rings)), (q_town_houses_pranks, .inl (g 0, 10, .inl a_town_houses_pranks)), (q_town_halls, .inr (2, [.int f_town_halls_size, .ref q_town_halls_rows, .ref q_town_halls_firsts, .ref q_town_halls_lasts])), (q_town_halls_rows, .inl (g 0, 4, .inl a_town_halls_rows)), (q_town_halls_firsts, .inl (g 0, 4, .inl a_town_halls_firsts)), (q_town_halls_lasts, .inl (g 0, 4, .inl a_town_halls_lasts)), (q_town_posts, .inr (6, [.int f_town_posts_size, .ref q_town_posts_cells, .ref q_town_posts_tolds])), (q_town_posts_cells, .inl (g 0, 4, .inl a_town_posts_cells)), (q_town_posts_tolds, .inl (g 0, 4, .inl a_town_posts_tolds)), (q_town_blocks, .inl (g 0, 64, .inl a_town_blocks)), (q_town_kinds, .inl (g 0, 4, .inl a_town_kinds)), (q_kept, .inr (9, [.ref q_kept_houses, .ref q_kept_halls, .ref q_kept_posts, .ref q_kept_blocks, .ref q_kept_kinds, .int o.2.2.1, .int o.2.2.2.1, .int o.2.2.2.2.1, .int o.2.2.2.2.2.1, .int o.2.2.2.2.2.2.1, .int o.2.2.2.2.2.2.2.1])), (q_kept_houses, .inr (3, [.int o.2.2.2.2.2.2.2.2.1, .ref q_kept_houses_cells, .ref q_kept_houses_froms, .ref q_kept_houses_tos, .ref q_kept_houses_rings, .ref q_kept_houses_pranks])), (q_kept_houses_cells, .inl (g 0, 10, .inl o.2.2.2.2.2.2.2.2.2.1)), (q_kept_houses_froms, .inl (g 0, 10, .inl o.2.2.2.2.2.2.2.2.2.2.1)), (q_kept_houses_tos, .inl (g 0, 10, .inl o.2.2.2.2.2.2.2.2.2.2.2.1)), (q_kept_houses_rings, .inl (g 0, 10, .inl o.2.2.2.2.2.2.2.2.2.2.2.2.1)), (q_kept_houses_pranks, .inl (g 0, 10, .inl o.2.2.2.2.2.2.2.2.2.2.2.2.2.1)), (q_kept_halls, .inr (2, [.int o.2.2.2.2.2.2.2.2.2.2.2.2.2.2.1, .ref q_kept_halls_rows, .ref q_kept_halls_firsts, .ref q_kept_halls_lasts])), (q_kept_halls_rows, .inl (g 0, 4, .inl o.2.2.2.2.2.2.2.2.2.2.2.2.2.2.2.1)), (q_kept_halls_firsts, .inl (g 0, 4, .inl o.2.2.2.2.2.2.2.2.2.2.2.2.2.2.2.2.1)), (q_kept_halls_lasts, .inl (g 0, 4, .inl o.2.2.2.2.2.2.2.2.2.2.2.2.2.2.2.2.2.1)), (q_kept_posts, .inr (6, [.int o.2.2.2.2.2.2.2.2.2.2.2.2.2.2.2.2.2.2.1, .ref q_kept_posts_cells, .ref q_kept_posts_tolds])), (q_kept_posts_cells, .inl (g 0, 4, .inl o.2.2.2.2.2.2.2.2.2.2.2.2.2.2.2.2.2.2.2.1)), (q_kept_posts_tolds, .inl (g 0, 4, .inl o.2.2.2.2.2.2.2.2.2.2.2.2.2.2.2.2.2.2.2.2.1)), (q_kept_blocks, .inl (g 0, 64, .inl o.2.2.2.2.2.2.2.2.2.2.2.2.2.2.2.2.2.2.2.2.2.1)), (q_kept_kinds, .inl (g 0, 4, .inl o.2.2.2.2.2.2.2.2.2.2.2.2.2.2.2.2.2.2.2.2.2.2))] := by
  refine z_wr_start (by decide) (Nat.le_of_ble_eq_true rfl) ?_
  intro p e s m args below meth c Q A X hr hQ hA
  refine z_lv (lv' := [(0, .ref q_this)]) rfl ?_
  refine z_aload_n X 0 dX11_save_0 rfl rfl ?_
  refine z_get (q0 := 0) (k := 2) (ci := 11) X IW_P iw_X11 rfl qf_X11_X11_kept (by decide) dX11_save_1 rfl rfl ?_
  refine z_aload_n X 0 dX11_save_4 rfl rfl ?_
  refine z_get (q0 := 0) (k := 0) (ci := 11) X IW_P iw_X11 rfl qf_X11_X11_town (by decide) dX11_save_5 rfl rfl ?_
  obtain ⟨o1, e2, h⟩ := bnd_p h
  refine z_wrV (rest := []) (q0 := 17) (ci := 9) (ws' := [(q_this, .inr (11, [.ref q_town, .ref q_ahead, .ref q_kept, .int f_isKept, .ref q_past, .ref q_reason, .ref q_orders, .ref q_ways, .ref q_sheet])), (q_town, .inr (9, [.ref q_town_houses, .ref q_town_halls, .ref q_town_posts, .ref q_town_blocks, .ref q_town_kinds, .int f_town_hour, .int f_town_day, .int f_town_prankHouse, .int f_town_bells, .int f_town_echoes, .int f_town_bellPranks])), (q_town_houses, .inr (3, [.int f_town_houses_size, .ref q_town_houses_cells, .ref q_town_houses_froms, .ref q_town_houses_tos, .ref q_town_houses_rings, .ref q_town_houses_pranks])), (q_town_houses_cells, .inl (g 0, 10, .inl a_town_houses_cells)), (q_town_houses_froms, .inl (g 0, 10, .inl a_town_houses_froms)), (q_town_houses_tos, .inl (g 0, 10, .inl a_town_houses_tos)), (q_town_houses_rings, .inl (g 0, 10, .inl a_town_houses_rings)), (q_town_houses_pranks, .inl (g 0, 10, .inl a_town_houses_pranks)), (q_town_halls, .inr (2, [.int f_town_halls_size, .ref q_town_halls_rows, .ref q_town_halls_firsts, .ref q_town_halls_lasts])), (q_town_halls_rows, .inl (g 0, 4, .inl a_town_halls_rows)), (q_town_halls_firsts, .inl (g 0, 4, .inl a_town_halls_firsts)), (q_town_halls_lasts, .inl (g 0, 4, .inl a_town_halls_lasts)), (q_town_posts, .inr (6, [.int f_town_posts_size, .ref q_town_posts_cells, .ref q_town_posts_tolds])), (q_town_posts_cells, .inl (g 0, 4, .inl a_town_posts_cells)), (q_town_posts_tolds, .inl (g 0, 4, .inl a_town_posts_tolds)), (q_town_blocks, .inl (g 0, 64, .inl a_town_blocks)), (q_town_kinds, .inl (g 0, 4, .inl a_town_kinds)), (q_kept, .inr (9, [.ref q_kept_houses, .ref q_kept_halls, .ref q_kept_posts, .ref q_kept_blocks, .ref q_kept_kinds, .int o1.1, .int o1.2.1, .int o1.2.2.1, .int o1.2.2.2.1, .int o1.2.2.2.2.1, .int o1.2.2.2.2.2.1])), (q_kept_houses, .inr (3, [.int o1.2.2.2.2.2.2.1, .ref q_kept_houses_cells, .ref q_kept_houses_froms, .ref q_kept_houses_tos, .ref q_kept_houses_rings, .ref q_kept_houses_pranks])), (q_kept_houses_cells, .inl (g 0, 10, .inl o1.2.2.2.2.2.2.2.1)), (q_kept_houses_froms, .inl (g 0, 10, .inl o1.2.2.2.2.2.2.2.2.1)), (q_kept_houses_tos, .inl (g 0, 10, .inl o1.2.2.2.2.2.2.2.2.2.1)), (q_kept_houses_rings, .inl (g 0, 10, .inl o1.2.2.2.2.2.2.2.2.2.2.1)), (q_kept_houses_pranks, .inl (g 0, 10, .inl o1.2.2.2.2.2.2.2.2.2.2.2.1)), (q_kept_halls, .inr (2, [.int o1.2.2.2.2.2.2.2.2.2.2.2.2.1, .ref q_kept_halls_rows, .ref q_kept_halls_firsts, .ref q_kept_halls_lasts])), (q_kept_halls_rows, .inl (g 0, 4, .inl o1.2.2.2.2.2.2.2.2.2.2.2.2.2.1)), (q_kept_halls_firsts, .inl (g 0, 4, .inl o1.2.2.2.2.2.2.2.2.2.2.2.2.2.2.1)), (q_kept_halls_lasts, .inl (g 0, 4, .inl o1.2.2.2.2.2.2.2.2.2.2.2.2.2.2.2.1)), (q_kept_posts, .inr (6, [.int o1.2.2.2.2.2.2.2.2.2.2.2.2.2.2.2.2.1, .ref q_kept_posts_cells, .ref q_kept_posts_tolds])), (q_kept_posts_cells, .inl (g 0, 4, .inl o1.2.2.2.2.2.2.2.2.2.2.2.2.2.2.2.2.2.1)), (q_kept_posts_tolds, .inl (g 0, 4, .inl o1.2.2.2.2.2.2.2.2.2.2.2.2.2.2.2.2.2.2.1)), (q_kept_blocks, .inl (g 0, 64, .inl o1.2.2.2.2.2.2.2.2.2.2.2.2.2.2.2.2.2.2.2.1)), (q_kept_kinds, .inl (g 0, 4, .inl o1.2.2.2.2.2.2.2.2.2.2.2.2.2.2.2.2.2.2.2.2))]) (wr := [(q_this, .inr (11, [.ref q_town, .ref q_ahead, .ref q_kept, .int f_isKept, .ref q_past, .ref q_reason, .ref q_orders, .ref q_ways, .ref q_sheet]))]) (as := [q_this, q_town, q_town_houses, q_town_houses_cells, q_town_houses_froms, q_town_houses_tos, q_town_houses_rings, q_town_houses_pranks, q_town_halls, q_town_halls_rows, q_town_halls_firsts, q_town_halls_lasts, q_town_posts, q_town_posts_cells, q_town_posts_tolds, q_town_blocks, q_town_kinds, q_kept, q_kept_houses, q_kept_houses_cells, q_kept_houses_froms, q_kept_houses_tos, q_kept_houses_rings, q_kept_houses_pranks, q_kept_halls, q_kept_halls_rows, q_kept_halls_firsts, q_kept_halls_lasts, q_kept_posts, q_kept_posts_cells, q_kept_posts_tolds, q_kept_blocks, q_kept_kinds]) X k_X9_take (c_X9_take l D g q_kept q_kept_houses q_kept_halls q_kept_posts q_kept_blocks q_kept_kinds q_kept_houses_cells q_kept_houses_froms q_kept_houses_tos q_kept_houses_rings q_kept_houses_pranks q_kept_halls_rows q_kept_halls_firsts q_kept_halls_lasts q_kept_posts_cells q_kept_posts_tolds q_town q_town_houses q_town_halls q_town_posts q_town_blocks q_town_kinds q_town_houses_cells q_town_houses_froms q_town_houses_tos q_town_houses_rings q_town_houses_pranks q_town_halls_rows q_town_halls_firsts q_town_halls_lasts q_town_posts_cells q_town_posts_tolds f_kept_hour f_kept_day f_kept_prankHouse f_kept_bells f_kept_echoes f_kept_bellPranks f_kept_houses_size a_kept_houses_cells a_kept_houses_froms a_kept_houses_tos a_kept_houses_rings a_kept_houses_pranks f_kept_halls_size a_kept_halls_rows a_kept_halls_firsts a_kept_halls_lasts f_kept_posts_size a_kept_posts_cells a_kept_posts_tolds a_kept_blocks a_kept_kinds f_town_hour f_town_day f_town_prankHouse f_town_bells f_town_echoes f_town_bellPranks f_town_houses_size a_town_houses_cells a_town_houses_froms a_town_houses_tos a_town_houses_rings a_town_houses_pranks f_town_halls_size a_town_halls_rows a_town_halls_firsts a_town_halls_lasts f_town_posts_size a_town_posts_cells a_town_posts_tolds a_town_blocks a_town_kinds o1 e2) ql_X11_X9_take dX11_save_8 [17, 18, 19, 20, 21, 22, 23, 24, 25, 26, 27, 28, 29, 30, 31, 32, 1, 2, 3, 4, 5, 6, 7, 8, 9, 10, 11, 12, 13, 14, 15, 16] [0] ⟨rfl, rfl, rfl, rfl, rfl, rfl, rfl, rfl⟩ rfl rfl rfl rfl rfl ⟨Nat.le_of_ble_eq_true rfl, Nat.le_of_ble_eq_true rfl, rfl, rfl, Nat.le_of_ble_eq_true rfl, Nat.le_of_ble_eq_true rfl⟩ (Nat.le_of_ble_eq_true rfl) ?_
  refine z_aload_n X 0 dX11_save_11 rfl rfl ?_
  refine z_iconst X (1 : Int32) dX11_save_12 (by decide) ?_
  refine z_put (q0 := 0) (k := 3) (ci := 11) (ws' := [(q_this, .inr (11, [.ref q_town, .ref q_ahead, .ref q_kept, .int (1 : Int32), .ref q_past, .ref q_reason, .ref q_orders, .ref q_ways, .ref q_sheet])), (q_town, .inr (9, [.ref q_town_houses, .ref q_town_halls, .ref q_town_posts, .ref q_town_blocks, .ref q_town_kinds, .int f_town_hour, .int f_town_day, .int f_town_prankHouse, .int f_town_bells, .int f_town_echoes, .int f_town_bellPranks])), (q_town_houses, .inr (3, [.int f_town_houses_size, .ref q_town_houses_cells, .ref q_town_houses_froms, .ref q_town_houses_tos, .ref q_town_houses_rings, .ref q_town_houses_pranks])), (q_town_houses_cells, .inl (g 0, 10, .inl a_town_houses_cells)), (q_town_houses_froms, .inl (g 0, 10, .inl a_town_houses_froms)), (q_town_houses_tos, .inl (g 0, 10, .inl a_town_houses_tos)), (q_town_houses_rings, .inl (g 0, 10, .inl a_town_houses_rings)), (q_town_houses_pranks, .inl (g 0, 10, .inl a_town_houses_pranks)), (q_town_halls, .inr (2, [.int f_town_halls_size, .ref q_town_halls_rows, .ref q_town_halls_firsts, .ref q_town_halls_lasts])), (q_town_halls_rows, .inl (g 0, 4, .inl a_town_halls_rows)), (q_town_halls_firsts, .inl (g 0, 4, .inl a_town_halls_firsts)), (q_town_halls_lasts, .inl (g 0, 4, .inl a_town_halls_lasts)), (q_town_posts, .inr (6, [.int f_town_posts_size, .ref q_town_posts_cells, .ref q_town_posts_tolds])), (q_town_posts_cells, .inl (g 0, 4, .inl a_town_posts_cells)), (q_town_posts_tolds, .inl (g 0, 4, .inl a_town_posts_tolds)), (q_town_blocks, .inl (g 0, 64, .inl a_town_blocks)), (q_town_kinds, .inl (g 0, 4, .inl a_town_kinds)), (q_kept, .inr (9, [.ref q_kept_houses, .ref q_kept_halls, .ref q_kept_posts, .ref q_kept_blocks, .ref q_kept_kinds, .int o1.1, .int o1.2.1, .int o1.2.2.1, .int o1.2.2.2.1, .int o1.2.2.2.2.1, .int o1.2.2.2.2.2.1])), (q_kept_houses, .inr (3, [.int o1.2.2.2.2.2.2.1, .ref q_kept_houses_cells, .ref q_kept_houses_froms, .ref q_kept_houses_tos, .ref q_kept_houses_rings, .ref q_kept_houses_pranks])), (q_kept_houses_cells, .inl (g 0, 10, .inl o1.2.2.2.2.2.2.2.1)), (q_kept_houses_froms, .inl (g 0, 10, .inl o1.2.2.2.2.2.2.2.2.1)), (q_kept_houses_tos, .inl (g 0, 10, .inl o1.2.2.2.2.2.2.2.2.2.1)), (q_kept_houses_rings, .inl (g 0, 10, .inl o1.2.2.2.2.2.2.2.2.2.2.1)), (q_kept_houses_pranks, .inl (g 0, 10, .inl o1.2.2.2.2.2.2.2.2.2.2.2.1)), (q_kept_halls, .inr (2, [.int o1.2.2.2.2.2.2.2.2.2.2.2.2.1, .ref q_kept_halls_rows, .ref q_kept_halls_firsts, .ref q_kept_halls_lasts])), (q_kept_halls_rows, .inl (g 0, 4, .inl o1.2.2.2.2.2.2.2.2.2.2.2.2.2.1)), (q_kept_halls_firsts, .inl (g 0, 4, .inl o1.2.2.2.2.2.2.2.2.2.2.2.2.2.2.1)), (q_kept_halls_lasts, .inl (g 0, 4, .inl o1.2.2.2.2.2.2.2.2.2.2.2.2.2.2.2.1)), (q_kept_posts, .inr (6, [.int o1.2.2.2.2.2.2.2.2.2.2.2.2.2.2.2.2.1, .ref q_kept_posts_cells, .ref q_kept_posts_tolds])), (q_kept_posts_cells, .inl (g 0, 4, .inl o1.2.2.2.2.2.2.2.2.2.2.2.2.2.2.2.2.2.1)), (q_kept_posts_tolds, .inl (g 0, 4, .inl o1.2.2.2.2.2.2.2.2.2.2.2.2.2.2.2.2.2.2.1)), (q_kept_blocks, .inl (g 0, 64, .inl o1.2.2.2.2.2.2.2.2.2.2.2.2.2.2.2.2.2.2.2.1)), (q_kept_kinds, .inl (g 0, 4, .inl o1.2.2.2.2.2.2.2.2.2.2.2.2.2.2.2.2.2.2.2.2))]) X iw_X11 tyX11_ok nmX11 rfl qf_X11_X11_isKept (by decide) rfl rfl dX11_save_13 rfl rfl rfl (Nat.le_of_ble_eq_true rfl) rfl ?_
  refine z_aload_n X 0 dX11_save_16 rfl rfl ?_
  refine z_get (q0 := 0) (k := 0) (ci := 11) X IW_P iw_X11 rfl qf_X11_X11_town (by decide) dX11_save_17 rfl rfl ?_
  refine z_getN (q0 := 1) (k := 0) (ci := 9) X IW_P iw_X9 rfl qfN_X11_X9_houses (by decide) dX11_save_20 rfl rfl ?_
  obtain ⟨o3, e4, h⟩ := bnd_p h
  refine z_rdV (rest := []) (q0 := 2) (ci := 3) X IW_P k_X2_size (c_X2_size l D g q_town_houses q_town_houses_cells q_town_houses_froms q_town_houses_tos q_town_houses_rings q_town_houses_pranks f_town_houses_size o3 e4) ql_X11_X2_size dX11_save_23 [2] rfl rfl rfl rfl rfl rfl ⟨Nat.le_of_ble_eq_true rfl, Nat.le_of_ble_eq_true rfl, rfl, rfl, Nat.le_of_ble_eq_true rfl, Nat.le_of_ble_eq_true rfl⟩ (Nat.le_of_ble_eq_true rfl) ?_
  cases h
  exact z_iretW X hQ hA hr dX11_save_26

def F_X4_clear (f_size : Int32) : Option (Int32) :=
  some ((0 : Int32))
theorem dX4_clear_0 : decode cX4_clear 0 = .ok (.aload_n 0, 1) := by decide +kernel
theorem dX4_clear_1 : decode cX4_clear 1 = .ok (.iconst 0, 1) := by decide +kernel
theorem dX4_clear_2 : decode cX4_clear 2 = .ok (.putfield 17, 3) := by decide +kernel
theorem dX4_clear_5 : decode cX4_clear 5 = .ok (.return_, 1) := by decide +kernel
theorem k_X4_clear : cardV yX4_clear (Cond.code yX4_clear cX4_clear 1 none) 0 := ⟨⟨qi_X4_clear, qv_X4_clear⟩, qc_X4_clear, qn_X4, by decide +kernel, by decide +kernel, by decide +kernel⟩
set_option maxHeartbeats 4000000 in
set_option maxRecDepth 100000 in
theorem c_X4_clear (l : Launch) (D : va_G) (g : Nat → ClassId) (q_this q_towns : Nat) (f_size : Int32) (f_next : Int32) (o : Int32) (h : F_X4_clear f_size = some o) : MW l yX4_clear (Cond.code yX4_clear cX4_clear 1 none) { frames := 0, cells := 0, slots := 0, locals := 0 } D g [.ref q_this] [(q_this, .inr (5, [.ref q_towns, .int f_size, .int f_next]))] none [(q_this, .inr (5, [.ref q_towns, .int o, .int f_next]))] := by
  refine z_wr_start (by decide) (Nat.le_of_ble_eq_true rfl) ?_
  intro p e s m args below meth c Q A X hr hQ hA
  refine z_lv (lv' := [(0, .ref q_this)]) rfl ?_
  refine z_aload_n X 0 dX4_clear_0 rfl rfl ?_
  refine z_iconst X (0 : Int32) dX4_clear_1 (by decide) ?_
  refine z_put (q0 := 0) (k := 1) (ci := 5) (ws' := [(q_this, .inr (5, [.ref q_towns, .int (0 : Int32), .int f_next]))]) X iw_X4 tyX4_ok nmX4 rfl qf_X4_X4_size (by decide) rfl rfl dX4_clear_2 rfl rfl rfl (Nat.le_of_ble_eq_true rfl) rfl ?_
  cases h
  exact z_vretW X hQ hA hr dX4_clear_5
