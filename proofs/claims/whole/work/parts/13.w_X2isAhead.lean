def F_X2_isAhead (p1 : Int32) (p2 : Int32) (a_rings : Nat → Int32) (a_pranks : Nat → Int32) : Option (Int32) :=
  bnd (F_X2_pranksAt p1 a_pranks) (fun o1 => bnd (F_X2_pranksAt p2 a_pranks) (fun o3 => brn (o1 = o3) (bnd (F_X2_ringsAt p1 a_rings) (fun o5 => bnd (F_X2_ringsAt p2 a_rings) (fun o7 => brn (o5 = o7) (brn (p2 ≤ p1) (some ((0 : Int32))) (some ((1 : Int32)))) (bnd (F_X2_ringsAt p1 a_rings) (fun o9 => bnd (F_X2_ringsAt p2 a_rings) (fun o11 => brn (o9 ≤ o11) (some ((0 : Int32))) (some ((1 : Int32))))))))) (bnd (F_X2_pranksAt p1 a_pranks) (fun o13 => bnd (F_X2_pranksAt p2 a_pranks) (fun o15 => brn (o13 ≤ o15) (some ((0 : Int32))) (some ((1 : Int32))))))))
theorem dX2_isAhead_0 : decode cX2_isAhead 0 = .ok (.aload_n 0, 1) := by decide +kernel
theorem dX2_isAhead_1 : decode cX2_isAhead 1 = .ok (.iload_n 1, 1) := by decide +kernel
theorem dX2_isAhead_2 : decode cX2_isAhead 2 = .ok (.invokevirtual 53, 3) := by decide +kernel
theorem dX2_isAhead_5 : decode cX2_isAhead 5 = .ok (.aload_n 0, 1) := by decide +kernel
theorem dX2_isAhead_6 : decode cX2_isAhead 6 = .ok (.iload_n 2, 1) := by decide +kernel
theorem dX2_isAhead_7 : decode cX2_isAhead 7 = .ok (.invokevirtual 53, 3) := by decide +kernel
theorem dX2_isAhead_10 : decode cX2_isAhead 10 = .ok (.if_icmp .eq 22, 3) := by decide +kernel
theorem dX2_isAhead_13 : decode cX2_isAhead 13 = .ok (.aload_n 0, 1) := by decide +kernel
theorem dX2_isAhead_14 : decode cX2_isAhead 14 = .ok (.iload_n 1, 1) := by decide +kernel
theorem dX2_isAhead_15 : decode cX2_isAhead 15 = .ok (.invokevirtual 53, 3) := by decide +kernel
theorem dX2_isAhead_18 : decode cX2_isAhead 18 = .ok (.aload_n 0, 1) := by decide +kernel
theorem dX2_isAhead_19 : decode cX2_isAhead 19 = .ok (.iload_n 2, 1) := by decide +kernel
theorem dX2_isAhead_20 : decode cX2_isAhead 20 = .ok (.invokevirtual 53, 3) := by decide +kernel
theorem dX2_isAhead_23 : decode cX2_isAhead 23 = .ok (.if_icmp .le 7, 3) := by decide +kernel
theorem dX2_isAhead_26 : decode cX2_isAhead 26 = .ok (.iconst 1, 1) := by decide +kernel
theorem dX2_isAhead_27 : decode cX2_isAhead 27 = .ok (.goto 4, 3) := by decide +kernel
theorem dX2_isAhead_30 : decode cX2_isAhead 30 = .ok (.iconst 0, 1) := by decide +kernel
theorem dX2_isAhead_31 : decode cX2_isAhead 31 = .ok (.ireturn, 1) := by decide +kernel
theorem dX2_isAhead_32 : decode cX2_isAhead 32 = .ok (.aload_n 0, 1) := by decide +kernel
theorem dX2_isAhead_33 : decode cX2_isAhead 33 = .ok (.iload_n 1, 1) := by decide +kernel
theorem dX2_isAhead_34 : decode cX2_isAhead 34 = .ok (.invokevirtual 49, 3) := by decide +kernel
theorem dX2_isAhead_37 : decode cX2_isAhead 37 = .ok (.aload_n 0, 1) := by decide +kernel
theorem dX2_isAhead_38 : decode cX2_isAhead 38 = .ok (.iload_n 2, 1) := by decide +kernel
theorem dX2_isAhead_39 : decode cX2_isAhead 39 = .ok (.invokevirtual 49, 3) := by decide +kernel
theorem dX2_isAhead_42 : decode cX2_isAhead 42 = .ok (.if_icmp .eq 22, 3) := by decide +kernel
theorem dX2_isAhead_45 : decode cX2_isAhead 45 = .ok (.aload_n 0, 1) := by decide +kernel
theorem dX2_isAhead_46 : decode cX2_isAhead 46 = .ok (.iload_n 1, 1) := by decide +kernel
theorem dX2_isAhead_47 : decode cX2_isAhead 47 = .ok (.invokevirtual 49, 3) := by decide +kernel
theorem dX2_isAhead_50 : decode cX2_isAhead 50 = .ok (.aload_n 0, 1) := by decide +kernel
theorem dX2_isAhead_51 : decode cX2_isAhead 51 = .ok (.iload_n 2, 1) := by decide +kernel
theorem dX2_isAhead_52 : decode cX2_isAhead 52 = .ok (.invokevirtual 49, 3) := by decide +kernel
theorem dX2_isAhead_55 : decode cX2_isAhead 55 = .ok (.if_icmp .le 7, 3) := by decide +kernel
theorem dX2_isAhead_58 : decode cX2_isAhead 58 = .ok (.iconst 1, 1) := by decide +kernel
theorem dX2_isAhead_59 : decode cX2_isAhead 59 = .ok (.goto 4, 3) := by decide +kernel
theorem dX2_isAhead_62 : decode cX2_isAhead 62 = .ok (.iconst 0, 1) := by decide +kernel
theorem dX2_isAhead_63 : decode cX2_isAhead 63 = .ok (.ireturn, 1) := by decide +kernel
theorem dX2_isAhead_64 : decode cX2_isAhead 64 = .ok (.iload_n 1, 1) := by decide +kernel
theorem dX2_isAhead_65 : decode cX2_isAhead 65 = .ok (.iload_n 2, 1) := by decide +kernel
theorem dX2_isAhead_66 : decode cX2_isAhead 66 = .ok (.if_icmp .ge 7, 3) := by decide +kernel
theorem dX2_isAhead_69 : decode cX2_isAhead 69 = .ok (.iconst 1, 1) := by decide +kernel
theorem dX2_isAhead_70 : decode cX2_isAhead 70 = .ok (.goto 4, 3) := by decide +kernel
theorem dX2_isAhead_73 : decode cX2_isAhead 73 = .ok (.iconst 0, 1) := by decide +kernel
theorem dX2_isAhead_74 : decode cX2_isAhead 74 = .ok (.ireturn, 1) := by decide +kernel
theorem k_X2_isAhead : cardV yX2_isAhead (Cond.code yX2_isAhead cX2_isAhead 3 (some .boolean)) 2 := ⟨⟨qi_X2_isAhead, qv_X2_isAhead⟩, qc_X2_isAhead, qn_X2, by decide +kernel, by decide +kernel, by decide +kernel⟩
set_option maxHeartbeats 4000000 in
set_option maxRecDepth 100000 in
theorem c_X2_isAhead (l : Launch) (D : va_G) (g : Nat → ClassId) (q_this q_cells q_froms q_tos q_rings q_pranks : Nat) (p1 p2 : Int32) (f_size : Int32) (a_rings : Nat → Int32) (a_pranks : Nat → Int32) (o : Int32) (h : F_X2_isAhead p1 p2 a_rings a_pranks = some o) : MR l yX2_isAhead (Cond.code yX2_isAhead cX2_isAhead 3 (some .boolean)) { frames := 2, cells := 0, slots := 0, locals := 42 } D g [.ref q_this, .int p1, .int p2] [(q_this, .inr (3, [.int f_size, .ref q_cells, .ref q_froms, .ref q_tos, .ref q_rings, .ref q_pranks])), (q_rings, .inl (g 0, 10, .inl a_rings)), (q_pranks, .inl (g 0, 10, .inl a_pranks))] (some (.int o)) := by
  refine z_rd_start (by decide) (Nat.le_of_ble_eq_true rfl) ?_
  intro p e s m args below meth c Q X hr hQ
  refine z_lv (lv' := [(0, .ref q_this), (1, .int p1), (2, .int p2)]) rfl ?_
  refine z_aload_n X 0 dX2_isAhead_0 rfl rfl ?_
  refine z_iload_n X 1 dX2_isAhead_1 rfl rfl ?_
  obtain ⟨o1, e2, h⟩ := bnd_p h
  refine z_rdV (rest := []) (q0 := 0) (ci := 3) X IR_P k_X2_pranksAt (c_X2_pranksAt l D g q_this q_cells q_froms q_tos q_rings q_pranks p1 f_size a_pranks o1 e2) ql_X2_X2_pranksAt dX2_isAhead_2 [0, 2] rfl rfl rfl rfl rfl rfl ⟨Nat.le_of_ble_eq_true rfl, Nat.le_of_ble_eq_true rfl, rfl, rfl, Nat.le_of_ble_eq_true rfl, Nat.le_of_ble_eq_true rfl⟩ (Nat.le_of_ble_eq_true rfl) ?_
  refine z_aload_n X 0 dX2_isAhead_5 rfl rfl ?_
  refine z_iload_n X 2 dX2_isAhead_6 rfl rfl ?_
  obtain ⟨o3, e4, h⟩ := bnd_p h
  refine z_rdV (rest := [.int o1]) (q0 := 0) (ci := 3) X IR_P k_X2_pranksAt (c_X2_pranksAt l D g q_this q_cells q_froms q_tos q_rings q_pranks p2 f_size a_pranks o3 e4) ql_X2_X2_pranksAt dX2_isAhead_7 [0, 2] rfl rfl rfl rfl rfl rfl ⟨Nat.le_of_ble_eq_true rfl, Nat.le_of_ble_eq_true rfl, rfl, rfl, Nat.le_of_ble_eq_true rfl, Nat.le_of_ble_eq_true rfl⟩ (Nat.le_of_ble_eq_true rfl) ?_
  refine z_icmp_eq X 32 dX2_isAhead_10 (by decide) h (fun _ h => ?_) (fun _ h => ?_)
  · refine z_aload_n X 0 dX2_isAhead_32 rfl rfl ?_
    refine z_iload_n X 1 dX2_isAhead_33 rfl rfl ?_
    obtain ⟨o5, e6, h⟩ := bnd_p h
    refine z_rdV (rest := []) (q0 := 0) (ci := 3) X IR_P k_X2_ringsAt (c_X2_ringsAt l D g q_this q_cells q_froms q_tos q_rings q_pranks p1 f_size a_rings o5 e6) ql_X2_X2_ringsAt dX2_isAhead_34 [0, 1] rfl rfl rfl rfl rfl rfl ⟨Nat.le_of_ble_eq_true rfl, Nat.le_of_ble_eq_true rfl, rfl, rfl, Nat.le_of_ble_eq_true rfl, Nat.le_of_ble_eq_true rfl⟩ (Nat.le_of_ble_eq_true rfl) ?_
    refine z_aload_n X 0 dX2_isAhead_37 rfl rfl ?_
    refine z_iload_n X 2 dX2_isAhead_38 rfl rfl ?_
    obtain ⟨o7, e8, h⟩ := bnd_p h
    refine z_rdV (rest := [.int o5]) (q0 := 0) (ci := 3) X IR_P k_X2_ringsAt (c_X2_ringsAt l D g q_this q_cells q_froms q_tos q_rings q_pranks p2 f_size a_rings o7 e8) ql_X2_X2_ringsAt dX2_isAhead_39 [0, 1] rfl rfl rfl rfl rfl rfl ⟨Nat.le_of_ble_eq_true rfl, Nat.le_of_ble_eq_true rfl, rfl, rfl, Nat.le_of_ble_eq_true rfl, Nat.le_of_ble_eq_true rfl⟩ (Nat.le_of_ble_eq_true rfl) ?_
    refine z_icmp_eq X 64 dX2_isAhead_42 (by decide) h (fun _ h => ?_) (fun _ h => ?_)
    · refine z_iload_n X 1 dX2_isAhead_64 rfl rfl ?_
      refine z_iload_n X 2 dX2_isAhead_65 rfl rfl ?_
      refine z_icmp_ge X 73 dX2_isAhead_66 (by decide) h (fun _ h => ?_) (fun _ h => ?_)
      · refine z_iconst X (0 : Int32) dX2_isAhead_73 (by decide) ?_
        exact z_zretR X hQ hr dX2_isAhead_74 rfl h
      · refine z_iconst X (1 : Int32) dX2_isAhead_69 (by decide) ?_
        refine z_goto X 74 dX2_isAhead_70 (by decide) ?_
        exact z_zretR X hQ hr dX2_isAhead_74 rfl h
    · refine z_aload_n X 0 dX2_isAhead_45 rfl rfl ?_
      refine z_iload_n X 1 dX2_isAhead_46 rfl rfl ?_
      obtain ⟨o9, e10, h⟩ := bnd_p h
      refine z_rdV (rest := []) (q0 := 0) (ci := 3) X IR_P k_X2_ringsAt (c_X2_ringsAt l D g q_this q_cells q_froms q_tos q_rings q_pranks p1 f_size a_rings o9 e10) ql_X2_X2_ringsAt dX2_isAhead_47 [0, 1] rfl rfl rfl rfl rfl rfl ⟨Nat.le_of_ble_eq_true rfl, Nat.le_of_ble_eq_true rfl, rfl, rfl, Nat.le_of_ble_eq_true rfl, Nat.le_of_ble_eq_true rfl⟩ (Nat.le_of_ble_eq_true rfl) ?_
      refine z_aload_n X 0 dX2_isAhead_50 rfl rfl ?_
      refine z_iload_n X 2 dX2_isAhead_51 rfl rfl ?_
      obtain ⟨o11, e12, h⟩ := bnd_p h
      refine z_rdV (rest := [.int o9]) (q0 := 0) (ci := 3) X IR_P k_X2_ringsAt (c_X2_ringsAt l D g q_this q_cells q_froms q_tos q_rings q_pranks p2 f_size a_rings o11 e12) ql_X2_X2_ringsAt dX2_isAhead_52 [0, 1] rfl rfl rfl rfl rfl rfl ⟨Nat.le_of_ble_eq_true rfl, Nat.le_of_ble_eq_true rfl, rfl, rfl, Nat.le_of_ble_eq_true rfl, Nat.le_of_ble_eq_true rfl⟩ (Nat.le_of_ble_eq_true rfl) ?_
      refine z_icmp_le X 62 dX2_isAhead_55 (by decide) h (fun _ h => ?_) (fun _ h => ?_)
      · refine z_iconst X (0 : Int32) dX2_isAhead_62 (by decide) ?_
        exact z_zretR X hQ hr dX2_isAhead_63 rfl h
      · refine z_iconst X (1 : Int32) dX2_isAhead_58 (by decide) ?_
        refine z_goto X 63 dX2_isAhead_59 (by decide) ?_
        exact z_zretR X hQ hr dX2_isAhead_63 rfl h
  · refine z_aload_n X 0 dX2_isAhead_13 rfl rfl ?_
    refine z_iload_n X 1 dX2_isAhead_14 rfl rfl ?_
    obtain ⟨o13, e14, h⟩ := bnd_p h
    refine z_rdV (rest := []) (q0 := 0) (ci := 3) X IR_P k_X2_pranksAt (c_X2_pranksAt l D g q_this q_cells q_froms q_tos q_rings q_pranks p1 f_size a_pranks o13 e14) ql_X2_X2_pranksAt dX2_isAhead_15 [0, 2] rfl rfl rfl rfl rfl rfl ⟨Nat.le_of_ble_eq_true rfl, Nat.le_of_ble_eq_true rfl, rfl, rfl, Nat.le_of_ble_eq_true rfl, Nat.le_of_ble_eq_true rfl⟩ (Nat.le_of_ble_eq_true rfl) ?_
    refine z_aload_n X 0 dX2_isAhead_18 rfl rfl ?_
    refine z_iload_n X 2 dX2_isAhead_19 rfl rfl ?_
    obtain ⟨o15, e16, h⟩ := bnd_p h
    refine z_rdV (rest := [.int o13]) (q0 := 0) (ci := 3) X IR_P k_X2_pranksAt (c_X2_pranksAt l D g q_this q_cells q_froms q_tos q_rings q_pranks p2 f_size a_pranks o15 e16) ql_X2_X2_pranksAt dX2_isAhead_20 [0, 2] rfl rfl rfl rfl rfl rfl ⟨Nat.le_of_ble_eq_true rfl, Nat.le_of_ble_eq_true rfl, rfl, rfl, Nat.le_of_ble_eq_true rfl, Nat.le_of_ble_eq_true rfl⟩ (Nat.le_of_ble_eq_true rfl) ?_
    refine z_icmp_le X 30 dX2_isAhead_23 (by decide) h (fun _ h => ?_) (fun _ h => ?_)
    · refine z_iconst X (0 : Int32) dX2_isAhead_30 (by decide) ?_
      exact z_zretR X hQ hr dX2_isAhead_31 rfl h
    · refine z_iconst X (1 : Int32) dX2_isAhead_26 (by decide) ?_
      refine z_goto X 31 dX2_isAhead_27 (by decide) ?_
      exact z_zretR X hQ hr dX2_isAhead_31 rfl h

def L_X2_rankOf_4 (p1 : Int32) (f_size : Int32) (a_rings : Nat → Int32) (a_pranks : Nat → Int32) : Nat → Int32 → Int32 → Option (Int32)
  | 0, _, _ => none
  | _n + 1, x2, x3 =>
    brn (f_size ≤ x3) (some (x2)) (bnd (F_X2_isAhead x3 p1 a_rings a_pranks) (fun o1 => brn (o1 = 0) (L_X2_rankOf_4 p1 f_size a_rings a_pranks _n x2 (x3 + 1)) (L_X2_rankOf_4 p1 f_size a_rings a_pranks _n (x2 + 1) (x3 + 1))))

def F_X2_rankOf (p1 : Int32) (f_size : Int32) (a_rings : Nat → Int32) (a_pranks : Nat → Int32) : Option (Int32) :=
  L_X2_rankOf_4 p1 f_size a_rings a_pranks 100 (0 : Int32) (0 : Int32)
theorem dX2_rankOf_0 : decode cX2_rankOf 0 = .ok (.iconst 0, 1) := by decide +kernel
theorem dX2_rankOf_1 : decode cX2_rankOf 1 = .ok (.istore_n 2, 1) := by decide +kernel
theorem dX2_rankOf_2 : decode cX2_rankOf 2 = .ok (.iconst 0, 1) := by decide +kernel
theorem dX2_rankOf_3 : decode cX2_rankOf 3 = .ok (.istore_n 3, 1) := by decide +kernel
theorem dX2_rankOf_4 : decode cX2_rankOf 4 = .ok (.iload_n 3, 1) := by decide +kernel
theorem dX2_rankOf_5 : decode cX2_rankOf 5 = .ok (.aload_n 0, 1) := by decide +kernel
theorem dX2_rankOf_6 : decode cX2_rankOf 6 = .ok (.getfield 27, 3) := by decide +kernel
theorem dX2_rankOf_9 : decode cX2_rankOf 9 = .ok (.if_icmp .ge 21, 3) := by decide +kernel
theorem dX2_rankOf_12 : decode cX2_rankOf 12 = .ok (.aload_n 0, 1) := by decide +kernel
theorem dX2_rankOf_13 : decode cX2_rankOf 13 = .ok (.iload_n 3, 1) := by decide +kernel
theorem dX2_rankOf_14 : decode cX2_rankOf 14 = .ok (.iload_n 1, 1) := by decide +kernel
theorem dX2_rankOf_15 : decode cX2_rankOf 15 = .ok (.invokevirtual 81, 3) := by decide +kernel
theorem dX2_rankOf_18 : decode cX2_rankOf 18 = .ok (.ifCond .eq 6, 3) := by decide +kernel
theorem dX2_rankOf_21 : decode cX2_rankOf 21 = .ok (.iinc 2 1, 3) := by decide +kernel
theorem dX2_rankOf_24 : decode cX2_rankOf 24 = .ok (.iinc 3 1, 3) := by decide +kernel
theorem dX2_rankOf_27 : decode cX2_rankOf 27 = .ok (.goto (-23), 3) := by decide +kernel
theorem dX2_rankOf_30 : decode cX2_rankOf 30 = .ok (.iload_n 2, 1) := by decide +kernel
theorem dX2_rankOf_31 : decode cX2_rankOf 31 = .ok (.ireturn, 1) := by decide +kernel
theorem k_X2_rankOf : cardV yX2_rankOf (Cond.code yX2_rankOf cX2_rankOf 4 (some .int)) 1 := ⟨⟨qi_X2_rankOf, qv_X2_rankOf⟩, qc_X2_rankOf, qn_X2, by decide +kernel, by decide +kernel, by decide +kernel⟩
set_option maxHeartbeats 4000000 in
set_option maxRecDepth 100000 in
theorem c_X2_rankOf (l : Launch) (D : va_G) (g : Nat → ClassId) (q_this q_cells q_froms q_tos q_rings q_pranks : Nat) (p1 : Int32) (f_size : Int32) (a_rings : Nat → Int32) (a_pranks : Nat → Int32) (o : Int32) (h : F_X2_rankOf p1 f_size a_rings a_pranks = some o) : MR l yX2_rankOf (Cond.code yX2_rankOf cX2_rankOf 4 (some .int)) { frames := 3, cells := 0, slots := 0, locals := 64 } D g [.ref q_this, .int p1] [(q_this, .inr (3, [.int f_size, .ref q_cells, .ref q_froms, .ref q_tos, .ref q_rings, .ref q_pranks])), (q_rings, .inl (g 0, 10, .inl a_rings)), (q_pranks, .inl (g 0, 10, .inl a_pranks))] (some (.int o)) := by
  refine z_rd_start (by decide) (Nat.le_of_ble_eq_true rfl) ?_
  intro p e s m args below meth c Q X hr hQ
  refine z_lv (lv' := [(0, .ref q_this), (1, .int p1)]) rfl ?_
  have H4 : ∀ (n : Nat) (x2 : Int32) (x3 : Int32), L_X2_rankOf_4 p1 f_size a_rings a_pranks  n x2 x3 = some o → Z p l e { frames := 3, cells := 0, slots := 0, locals := 64 } s m args below meth c Q 4 0 0 (IR D [(q_this, .inr (3, [.int f_size, .ref q_cells, .ref q_froms, .ref q_tos, .ref q_rings, .ref q_pranks])), (q_rings, .inl (g 0, 10, .inl a_rings)), (q_pranks, .inl (g 0, 10, .inl a_pranks))] s) 4 [(0, .ref q_this), (1, .int p1), (2, .int x2), (3, .int x3)] [] := by
    intro n
    induction n with
    | zero => intro x2 x3 h; cases h
    | succ n4 ih4 =>
      intro x2 x3 h
      refine z_iload_n X 3 dX2_rankOf_4 rfl rfl ?_
      refine z_aload_n X 0 dX2_rankOf_5 rfl rfl ?_
      refine z_get (q0 := 0) (k := 0) (ci := 3) X IR_P iw_X2 rfl qf_X2_X2_size (by decide) dX2_rankOf_6 rfl rfl ?_
      refine z_icmp_ge X 30 dX2_rankOf_9 (by decide) h (fun _ h => ?_) (fun _ h => ?_)
      · refine z_iload_n X 2 dX2_rankOf_30 rfl rfl ?_
        exact z_iretR X hQ hr dX2_rankOf_31 h
      · refine z_aload_n X 0 dX2_rankOf_12 rfl rfl ?_
        refine z_iload_n X 3 dX2_rankOf_13 rfl rfl ?_
        refine z_iload_n X 1 dX2_rankOf_14 rfl rfl ?_
        obtain ⟨o1, e2, h⟩ := bnd_p h
        refine z_rdV (rest := []) (q0 := 0) (ci := 3) X IR_P k_X2_isAhead (c_X2_isAhead l D g q_this q_cells q_froms q_tos q_rings q_pranks x3 p1 f_size a_rings a_pranks o1 e2) ql_X2_X2_isAhead dX2_rankOf_15 [0, 1, 2] rfl rfl rfl rfl rfl rfl ⟨Nat.le_of_ble_eq_true rfl, Nat.le_of_ble_eq_true rfl, rfl, rfl, Nat.le_of_ble_eq_true rfl, Nat.le_of_ble_eq_true rfl⟩ (Nat.le_of_ble_eq_true rfl) ?_
        refine z_if_eq X 24 dX2_rankOf_18 (by decide) h (fun _ h => ?_) (fun _ h => ?_)
        · refine z_iinc X 3 [(3, .int (x3 + 1)), (0, .ref q_this), (1, .int p1), (2, .int x2)] dX2_rankOf_24 rfl rfl (by decide) rfl ?_
          refine z_goto X 4 dX2_rankOf_27 (by decide) ?_
          refine z_sub (lv' := [(0, .ref q_this), (1, .int p1), (2, .int x2), (3, .int (x3 + 1))]) [1, 2, 3, 0] rfl ?_
          exact ih4 x2 (x3 + 1) h
        · refine z_iinc X 2 [(2, .int (x2 + 1)), (0, .ref q_this), (1, .int p1), (3, .int x3)] dX2_rankOf_21 rfl rfl (by decide) rfl ?_
          refine z_iinc X 3 [(3, .int (x3 + 1)), (2, .int (x2 + 1)), (0, .ref q_this), (1, .int p1)] dX2_rankOf_24 rfl rfl (by decide) rfl ?_
          refine z_goto X 4 dX2_rankOf_27 (by decide) ?_
          refine z_sub (lv' := [(0, .ref q_this), (1, .int p1), (2, .int (x2 + 1)), (3, .int (x3 + 1))]) [2, 3, 1, 0] rfl ?_
          exact ih4 (x2 + 1) (x3 + 1) h
  refine z_iconst X (0 : Int32) dX2_rankOf_0 (by decide) ?_
  refine z_istore_n X [(2, .int (0 : Int32)), (0, .ref q_this), (1, .int p1)] dX2_rankOf_1 rfl (by decide) rfl ?_
  refine z_iconst X (0 : Int32) dX2_rankOf_2 (by decide) ?_
  refine z_istore_n X [(3, .int (0 : Int32)), (2, .int (0 : Int32)), (0, .ref q_this), (1, .int p1)] dX2_rankOf_3 rfl (by decide) rfl ?_
  refine z_sub (lv' := [(0, .ref q_this), (1, .int p1), (2, .int (0 : Int32)), (3, .int (0 : Int32))]) [2, 3, 1, 0] rfl ?_
  exact H4 100 (0 : Int32) (0 : Int32) h

def L_X2_atRank_2 (p1 : Int32) (f_size : Int32) (a_rings : Nat → Int32) (a_pranks : Nat → Int32) : Nat → Int32 → Option (Int32)
  | 0, _ => none
  | _n + 1, x2 =>
    brn (f_size ≤ x2) (some (((-1) : Int32))) (bnd (F_X2_rankOf x2 f_size a_rings a_pranks) (fun o1 => brn (o1 = p1) (some (x2)) (L_X2_atRank_2 p1 f_size a_rings a_pranks _n (x2 + 1))))

def F_X2_atRank (p1 : Int32) (f_size : Int32) (a_rings : Nat → Int32) (a_pranks : Nat → Int32) : Option (Int32) :=
  L_X2_atRank_2 p1 f_size a_rings a_pranks 100 (0 : Int32)
theorem dX2_atRank_0 : decode cX2_atRank 0 = .ok (.iconst 0, 1) := by decide +kernel
theorem dX2_atRank_1 : decode cX2_atRank 1 = .ok (.istore_n 2, 1) := by decide +kernel
theorem dX2_atRank_2 : decode cX2_atRank 2 = .ok (.iload_n 2, 1) := by decide +kernel
theorem dX2_atRank_3 : decode cX2_atRank 3 = .ok (.aload_n 0, 1) := by decide +kernel
theorem dX2_atRank_4 : decode cX2_atRank 4 = .ok (.getfield 27, 3) := by decide +kernel
theorem dX2_atRank_7 : decode cX2_atRank 7 = .ok (.if_icmp .ge 20, 3) := by decide +kernel
theorem dX2_atRank_10 : decode cX2_atRank 10 = .ok (.aload_n 0, 1) := by decide +kernel
theorem dX2_atRank_11 : decode cX2_atRank 11 = .ok (.iload_n 2, 1) := by decide +kernel
theorem dX2_atRank_12 : decode cX2_atRank 12 = .ok (.invokevirtual 78, 3) := by decide +kernel
theorem dX2_atRank_15 : decode cX2_atRank 15 = .ok (.iload_n 1, 1) := by decide +kernel
theorem dX2_atRank_16 : decode cX2_atRank 16 = .ok (.if_icmp .ne 5, 3) := by decide +kernel
theorem dX2_atRank_19 : decode cX2_atRank 19 = .ok (.iload_n 2, 1) := by decide +kernel
theorem dX2_atRank_20 : decode cX2_atRank 20 = .ok (.ireturn, 1) := by decide +kernel
theorem dX2_atRank_21 : decode cX2_atRank 21 = .ok (.iinc 2 1, 3) := by decide +kernel
theorem dX2_atRank_24 : decode cX2_atRank 24 = .ok (.goto (-22), 3) := by decide +kernel
theorem dX2_atRank_27 : decode cX2_atRank 27 = .ok (.iconst (-1), 1) := by decide +kernel
theorem dX2_atRank_28 : decode cX2_atRank 28 = .ok (.ireturn, 1) := by decide +kernel
theorem k_X2_atRank : cardV yX2_atRank (Cond.code yX2_atRank cX2_atRank 3 (some .int)) 1 := ⟨⟨qi_X2_atRank, qv_X2_atRank⟩, qc_X2_atRank, qn_X2, by decide +kernel, by decide +kernel, by decide +kernel⟩
set_option maxHeartbeats 4000000 in
set_option maxRecDepth 100000 in
theorem c_X2_atRank (l : Launch) (D : va_G) (g : Nat → ClassId) (q_this q_cells q_froms q_tos q_rings q_pranks : Nat) (p1 : Int32) (f_size : Int32) (a_rings : Nat → Int32) (a_pranks : Nat → Int32) (o : Int32) (h : F_X2_atRank p1 f_size a_rings a_pranks = some o) : MR l yX2_atRank (Cond.code yX2_atRank cX2_atRank 3 (some .int)) { frames := 4, cells := 0, slots := 0, locals := 87 } D g [.ref q_this, .int p1] [(q_this, .inr (3, [.int f_size, .ref q_cells, .ref q_froms, .ref q_tos, .ref q_rings, .ref q_pranks])), (q_rings, .inl (g 0, 10, .inl a_rings)), (q_pranks, .inl (g 0, 10, .inl a_pranks))] (some (.int o)) := by
  refine z_rd_start (by decide) (Nat.le_of_ble_eq_true rfl) ?_
  intro p e s m args below meth c Q X hr hQ
  refine z_lv (lv' := [(0, .ref q_this), (1, .int p1)]) rfl ?_
  have H2 : ∀ (n : Nat) (x2 : Int32), L_X2_atRank_2 p1 f_size a_rings a_pranks  n x2 = some o → Z p l e { frames := 4, cells := 0, slots := 0, locals := 87 } s m args below meth c Q 3 0 0 (IR D [(q_this, .inr (3, [.int f_size, .ref q_cells, .ref q_froms, .ref q_tos, .ref q_rings, .ref q_pranks])), (q_rings, .inl (g 0, 10, .inl a_rings)), (q_pranks, .inl (g 0, 10, .inl a_pranks))] s) 2 [(0, .ref q_this), (1, .int p1), (2, .int x2)] [] := by
    intro n
    induction n with
    | zero => intro x2 h; cases h
    | succ n2 ih2 =>
      intro x2 h
      refine z_iload_n X 2 dX2_atRank_2 rfl rfl ?_
      refine z_aload_n X 0 dX2_atRank_3 rfl rfl ?_
      refine z_get (q0 := 0) (k := 0) (ci := 3) X IR_P iw_X2 rfl qf_X2_X2_size (by decide) dX2_atRank_4 rfl rfl ?_
      refine z_icmp_ge X 27 dX2_atRank_7 (by decide) h (fun _ h => ?_) (fun _ h => ?_)
      · refine z_iconst X ((-1) : Int32) dX2_atRank_27 (by decide) ?_
        exact z_iretR X hQ hr dX2_atRank_28 h
      · refine z_aload_n X 0 dX2_atRank_10 rfl rfl ?_
        refine z_iload_n X 2 dX2_atRank_11 rfl rfl ?_
        obtain ⟨o1, e2, h⟩ := bnd_p h
        refine z_rdV (rest := []) (q0 := 0) (ci := 3) X IR_P k_X2_rankOf (c_X2_rankOf l D g q_this q_cells q_froms q_tos q_rings q_pranks x2 f_size a_rings a_pranks o1 e2) ql_X2_X2_rankOf dX2_atRank_12 [0, 1, 2] rfl rfl rfl rfl rfl rfl ⟨Nat.le_of_ble_eq_true rfl, Nat.le_of_ble_eq_true rfl, rfl, rfl, Nat.le_of_ble_eq_true rfl, Nat.le_of_ble_eq_true rfl⟩ (Nat.le_of_ble_eq_true rfl) ?_
        refine z_iload_n X 1 dX2_atRank_15 rfl rfl ?_
        refine z_icmp_ne X 21 dX2_atRank_16 (by decide) h (fun _ h => ?_) (fun _ h => ?_)
        · refine z_iload_n X 2 dX2_atRank_19 rfl rfl ?_
          exact z_iretR X hQ hr dX2_atRank_20 h
        · refine z_iinc X 2 [(2, .int (x2 + 1)), (0, .ref q_this), (1, .int p1)] dX2_atRank_21 rfl rfl (by decide) rfl ?_
          refine z_goto X 2 dX2_atRank_24 (by decide) ?_
          refine z_sub (lv' := [(0, .ref q_this), (1, .int p1), (2, .int (x2 + 1))]) [1, 2, 0] rfl ?_
          exact ih2 (x2 + 1) h
  refine z_iconst X (0 : Int32) dX2_atRank_0 (by decide) ?_
  refine z_istore_n X [(2, .int (0 : Int32)), (0, .ref q_this), (1, .int p1)] dX2_atRank_1 rfl (by decide) rfl ?_
  refine z_sub (lv' := [(0, .ref q_this), (1, .int p1), (2, .int (0 : Int32))]) [1, 2, 0] rfl ?_
  exact H2 100 (0 : Int32) h

def F_X8_digit (p0 : Int32) : Option (Int32) :=
  grd (vp_nar .char ((((48 : Int32) + p0).toUInt32 % 65536).toInt32) = ((((48 : Int32) + p0).toUInt32 % 65536).toInt32)) (some ((((48 : Int32) + p0).toUInt32 % 65536).toInt32))
theorem dX8_digit_0 : decode cX8_digit 0 = .ok (.bipush 48, 2) := by decide +kernel
theorem dX8_digit_2 : decode cX8_digit 2 = .ok (.iload_n 0, 1) := by decide +kernel
theorem dX8_digit_3 : decode cX8_digit 3 = .ok (.iadd, 1) := by decide +kernel
theorem dX8_digit_4 : decode cX8_digit 4 = .ok (.i2c, 1) := by decide +kernel
theorem dX8_digit_5 : decode cX8_digit 5 = .ok (.ireturn, 1) := by decide +kernel
theorem k_X8_digit : cardS yX8_digit (Cond.code yX8_digit cX8_digit 1 (some .char)) 1 := ⟨qs_X8_digit, qc_X8_digit, qn_X8, by decide +kernel, by decide +kernel, by decide +kernel⟩
set_option maxHeartbeats 4000000 in
set_option maxRecDepth 100000 in
theorem c_X8_digit (l : Launch) (D : va_G) (g : Nat → ClassId) (p0 : Int32) (o : Int32) (h : F_X8_digit p0 = some o) : MR l yX8_digit (Cond.code yX8_digit cX8_digit 1 (some .char)) { frames := 0, cells := 0, slots := 0, locals := 0 } D g [.int p0] [] (some (.int o)) := by
  refine z_rd_start (by decide) (Nat.le_of_ble_eq_true rfl) ?_
  intro p e s m args below meth c Q X hr hQ
  refine z_lv (lv' := [(0, .int p0)]) rfl ?_
  refine z_bipush X (48 : Int32) dX8_digit_0 (by decide) ?_
  refine z_iload_n X 0 dX8_digit_2 rfl rfl ?_
  refine z_iadd X dX8_digit_3 ?_
  refine z_i2c X dX8_digit_4 ?_
  obtain ⟨e1, h⟩ := grd_p h
  exact z_zretR X hQ hr dX8_digit_5 (nar_char e1) h

def F_X8_signOf (p1 : Int32) (f_p0_houses_size : Int32) (a_p0_houses_cells : Nat → Int32) (f_p0_halls_size : Int32) (a_p0_halls_rows : Nat → Int32) (a_p0_halls_firsts : Nat → Int32) (a_p0_halls_lasts : Nat → Int32) (f_p0_posts_size : Int32) (a_p0_posts_cells : Nat → Int32) (a_p0_blocks : Nat → Int32) : Option (Int32) :=
  bnd (F_X2_on p1 f_p0_houses_size a_p0_houses_cells) (fun o1 => brn (o1 = ((-1) : Int32)) (bnd (F_X9_isBlocked p1 a_p0_blocks) (fun o3 => brn (o3 = 0) (bnd (F_X5_on p1 f_p0_posts_size a_p0_posts_cells) (fun o5 => brn (o5 = ((-1) : Int32)) (bnd (F_X1_around p1 f_p0_halls_size a_p0_halls_rows a_p0_halls_firsts a_p0_halls_lasts) (fun o7 => brn (o7 = ((-1) : Int32)) (grd (vp_nar .char (46 : Int32) = (46 : Int32)) (some ((46 : Int32)))) (grd (vp_nar .char (95 : Int32) = (95 : Int32)) (some ((95 : Int32)))))) (grd (vp_nar .char (111 : Int32) = (111 : Int32)) (some ((111 : Int32)))))) (grd (vp_nar .char (35 : Int32) = (35 : Int32)) (some ((35 : Int32)))))) (bnd (F_X8_digit o1) (fun o13 => grd (vp_nar .char o13 = o13) (some (o13)))))
theorem dX8_signOf_0 : decode cX8_signOf 0 = .ok (.aload_n 0, 1) := by decide +kernel
theorem dX8_signOf_1 : decode cX8_signOf 1 = .ok (.getfield 33, 3) := by decide +kernel
theorem dX8_signOf_4 : decode cX8_signOf 4 = .ok (.iload_n 1, 1) := by decide +kernel
theorem dX8_signOf_5 : decode cX8_signOf 5 = .ok (.invokevirtual 39, 3) := by decide +kernel
theorem dX8_signOf_8 : decode cX8_signOf 8 = .ok (.istore_n 2, 1) := by decide +kernel
theorem dX8_signOf_9 : decode cX8_signOf 9 = .ok (.iload_n 2, 1) := by decide +kernel
theorem dX8_signOf_10 : decode cX8_signOf 10 = .ok (.iconst (-1), 1) := by decide +kernel
theorem dX8_signOf_11 : decode cX8_signOf 11 = .ok (.if_icmp .eq 8, 3) := by decide +kernel
theorem dX8_signOf_14 : decode cX8_signOf 14 = .ok (.iload_n 2, 1) := by decide +kernel
theorem dX8_signOf_15 : decode cX8_signOf 15 = .ok (.invokestatic 45, 3) := by decide +kernel
theorem dX8_signOf_18 : decode cX8_signOf 18 = .ok (.ireturn, 1) := by decide +kernel
theorem dX8_signOf_19 : decode cX8_signOf 19 = .ok (.aload_n 0, 1) := by decide +kernel
theorem dX8_signOf_20 : decode cX8_signOf 20 = .ok (.iload_n 1, 1) := by decide +kernel
theorem dX8_signOf_21 : decode cX8_signOf 21 = .ok (.invokevirtual 49, 3) := by decide +kernel
theorem dX8_signOf_24 : decode cX8_signOf 24 = .ok (.ifCond .eq 6, 3) := by decide +kernel
theorem dX8_signOf_27 : decode cX8_signOf 27 = .ok (.bipush 35, 2) := by decide +kernel
theorem dX8_signOf_29 : decode cX8_signOf 29 = .ok (.ireturn, 1) := by decide +kernel
theorem dX8_signOf_30 : decode cX8_signOf 30 = .ok (.aload_n 0, 1) := by decide +kernel
theorem dX8_signOf_31 : decode cX8_signOf 31 = .ok (.getfield 53, 3) := by decide +kernel
theorem dX8_signOf_34 : decode cX8_signOf 34 = .ok (.iload_n 1, 1) := by decide +kernel
theorem dX8_signOf_35 : decode cX8_signOf 35 = .ok (.invokevirtual 57, 3) := by decide +kernel
theorem dX8_signOf_38 : decode cX8_signOf 38 = .ok (.iconst (-1), 1) := by decide +kernel
theorem dX8_signOf_39 : decode cX8_signOf 39 = .ok (.if_icmp .eq 6, 3) := by decide +kernel
theorem dX8_signOf_42 : decode cX8_signOf 42 = .ok (.bipush 111, 2) := by decide +kernel
theorem dX8_signOf_44 : decode cX8_signOf 44 = .ok (.ireturn, 1) := by decide +kernel
theorem dX8_signOf_45 : decode cX8_signOf 45 = .ok (.aload_n 0, 1) := by decide +kernel
theorem dX8_signOf_46 : decode cX8_signOf 46 = .ok (.getfield 60, 3) := by decide +kernel
theorem dX8_signOf_49 : decode cX8_signOf 49 = .ok (.iload_n 1, 1) := by decide +kernel
theorem dX8_signOf_50 : decode cX8_signOf 50 = .ok (.invokevirtual 64, 3) := by decide +kernel
theorem dX8_signOf_53 : decode cX8_signOf 53 = .ok (.iconst (-1), 1) := by decide +kernel
theorem dX8_signOf_54 : decode cX8_signOf 54 = .ok (.if_icmp .eq 8, 3) := by decide +kernel
theorem dX8_signOf_57 : decode cX8_signOf 57 = .ok (.bipush 95, 2) := by decide +kernel
theorem dX8_signOf_59 : decode cX8_signOf 59 = .ok (.goto 5, 3) := by decide +kernel
theorem dX8_signOf_62 : decode cX8_signOf 62 = .ok (.bipush 46, 2) := by decide +kernel
theorem dX8_signOf_64 : decode cX8_signOf 64 = .ok (.ireturn, 1) := by decide +kernel
theorem k_X8_signOf : cardS yX8_signOf (Cond.code yX8_signOf cX8_signOf 3 (some .char)) 2 := ⟨qs_X8_signOf, qc_X8_signOf, qn_X8, by decide +kernel, by decide +kernel, by decide +kernel⟩
set_option maxHeartbeats 4000000 in
set_option maxRecDepth 100000 in
theorem c_X8_signOf (l : Launch) (D : va_G) (g : Nat → ClassId) (q_p0 q_p0_houses q_p0_halls q_p0_posts q_p0_blocks q_p0_kinds q_p0_houses_cells q_p0_houses_froms q_p0_houses_tos q_p0_houses_rings q_p0_houses_pranks q_p0_halls_rows q_p0_halls_firsts q_p0_halls_lasts q_p0_posts_cells q_p0_posts_tolds : Nat) (p1 : Int32) (f_p0_hour : Int32) (f_p0_day : Int32) (f_p0_prankHouse : Int32) (f_p0_bells : Int32) (f_p0_echoes : Int32) (f_p0_bellPranks : Int32) (f_p0_houses_size : Int32) (a_p0_houses_cells : Nat → Int32) (f_p0_halls_size : Int32) (a_p0_halls_rows : Nat → Int32) (a_p0_halls_firsts : Nat → Int32) (a_p0_halls_lasts : Nat → Int32) (f_p0_posts_size : Int32) (a_p0_posts_cells : Nat → Int32) (a_p0_blocks : Nat → Int32) (o : Int32) (h : F_X8_signOf p1 f_p0_houses_size a_p0_houses_cells f_p0_halls_size a_p0_halls_rows a_p0_halls_firsts a_p0_halls_lasts f_p0_posts_size a_p0_posts_cells a_p0_blocks = some o) : MR l yX8_signOf (Cond.code yX8_signOf cX8_signOf 3 (some .char)) { frames := 2, cells := 0, slots := 0, locals := 45 } D g [.ref q_p0, .int p1] [(q_p0, .inr (9, [.ref q_p0_houses, .ref q_p0_halls, .ref q_p0_posts, .ref q_p0_blocks, .ref q_p0_kinds, .int f_p0_hour, .int f_p0_day, .int f_p0_prankHouse, .int f_p0_bells, .int f_p0_echoes, .int f_p0_bellPranks])), (q_p0_houses, .inr (3, [.int f_p0_houses_size, .ref q_p0_houses_cells, .ref q_p0_houses_froms, .ref q_p0_houses_tos, .ref q_p0_houses_rings, .ref q_p0_houses_pranks])), (q_p0_houses_cells, .inl (g 0, 10, .inl a_p0_houses_cells)), (q_p0_halls, .inr (2, [.int f_p0_halls_size, .ref q_p0_halls_rows, .ref q_p0_halls_firsts, .ref q_p0_halls_lasts])), (q_p0_halls_rows, .inl (g 0, 4, .inl a_p0_halls_rows)), (q_p0_halls_firsts, .inl (g 0, 4, .inl a_p0_halls_firsts)), (q_p0_halls_lasts, .inl (g 0, 4, .inl a_p0_halls_lasts)), (q_p0_posts, .inr (6, [.int f_p0_posts_size, .ref q_p0_posts_cells, .ref q_p0_posts_tolds])), (q_p0_posts_cells, .inl (g 0, 4, .inl a_p0_posts_cells)), (q_p0_blocks, .inl (g 0, 64, .inl a_p0_blocks))] (some (.int o)) := by
  refine z_rd_start (by decide) (Nat.le_of_ble_eq_true rfl) ?_
  intro p e s m args below meth c Q X hr hQ
  refine z_lv (lv' := [(0, .ref q_p0), (1, .int p1)]) rfl ?_
  refine z_aload_n X 0 dX8_signOf_0 rfl rfl ?_
  refine z_getN (q0 := 0) (k := 0) (ci := 9) X IR_P iw_X9 rfl qfN_X8_X9_houses (by decide) dX8_signOf_1 rfl rfl ?_
  refine z_iload_n X 1 dX8_signOf_4 rfl rfl ?_
  obtain ⟨o1, e2, h⟩ := bnd_p h
  refine z_rdV (rest := []) (q0 := 1) (ci := 3) X IR_P k_X2_on (c_X2_on l D g q_p0_houses q_p0_houses_cells q_p0_houses_froms q_p0_houses_tos q_p0_houses_rings q_p0_houses_pranks p1 f_p0_houses_size a_p0_houses_cells o1 e2) ql_X8_X2_on dX8_signOf_5 [1, 2] rfl rfl rfl rfl rfl rfl ⟨Nat.le_of_ble_eq_true rfl, Nat.le_of_ble_eq_true rfl, rfl, rfl, Nat.le_of_ble_eq_true rfl, Nat.le_of_ble_eq_true rfl⟩ (Nat.le_of_ble_eq_true rfl) ?_
  refine z_istore_n X [(2, .int o1), (0, .ref q_p0), (1, .int p1)] dX8_signOf_8 rfl (by decide) rfl ?_
  refine z_iload_n X 0 dX8_signOf_9 rfl rfl ?_
  refine z_iconst X ((-1) : Int32) dX8_signOf_10 (by decide) ?_
  refine z_icmp_eq X 19 dX8_signOf_11 (by decide) h (fun _ h => ?_) (fun _ h => ?_)
  · refine z_aload_n X 1 dX8_signOf_19 rfl rfl ?_
    refine z_iload_n X 2 dX8_signOf_20 rfl rfl ?_
    obtain ⟨o3, e4, h⟩ := bnd_p h
    refine z_rdV (rest := []) (q0 := 0) (ci := 9) X IR_P k_X9_isBlocked (c_X9_isBlocked l D g q_p0 q_p0_houses q_p0_halls q_p0_posts q_p0_blocks q_p0_kinds p1 f_p0_hour f_p0_day f_p0_prankHouse f_p0_bells f_p0_echoes f_p0_bellPranks a_p0_blocks o3 e4) ql_X8_X9_isBlocked dX8_signOf_21 [0, 9] rfl rfl rfl rfl rfl rfl ⟨Nat.le_of_ble_eq_true rfl, Nat.le_of_ble_eq_true rfl, rfl, rfl, Nat.le_of_ble_eq_true rfl, Nat.le_of_ble_eq_true rfl⟩ (Nat.le_of_ble_eq_true rfl) ?_
    refine z_if_eq X 30 dX8_signOf_24 (by decide) h (fun _ h => ?_) (fun _ h => ?_)
    · refine z_aload_n X 1 dX8_signOf_30 rfl rfl ?_
      refine z_getN (q0 := 0) (k := 2) (ci := 9) X IR_P iw_X9 rfl qfN_X8_X9_posts (by decide) dX8_signOf_31 rfl rfl ?_
      refine z_iload_n X 2 dX8_signOf_34 rfl rfl ?_
      obtain ⟨o5, e6, h⟩ := bnd_p h
      refine z_rdV (rest := []) (q0 := 7) (ci := 6) X IR_P k_X5_on (c_X5_on l D g q_p0_posts q_p0_posts_cells q_p0_posts_tolds p1 f_p0_posts_size a_p0_posts_cells o5 e6) ql_X8_X5_on dX8_signOf_35 [7, 8] rfl rfl rfl rfl rfl rfl ⟨Nat.le_of_ble_eq_true rfl, Nat.le_of_ble_eq_true rfl, rfl, rfl, Nat.le_of_ble_eq_true rfl, Nat.le_of_ble_eq_true rfl⟩ (Nat.le_of_ble_eq_true rfl) ?_
      refine z_iconst X ((-1) : Int32) dX8_signOf_38 (by decide) ?_
      refine z_icmp_eq X 45 dX8_signOf_39 (by decide) h (fun _ h => ?_) (fun _ h => ?_)
      · refine z_aload_n X 1 dX8_signOf_45 rfl rfl ?_
        refine z_getN (q0 := 0) (k := 1) (ci := 9) X IR_P iw_X9 rfl qfN_X8_X9_halls (by decide) dX8_signOf_46 rfl rfl ?_
        refine z_iload_n X 2 dX8_signOf_49 rfl rfl ?_
        obtain ⟨o7, e8, h⟩ := bnd_p h
        refine z_rdV (rest := []) (q0 := 3) (ci := 2) X IR_P k_X1_around (c_X1_around l D g q_p0_halls q_p0_halls_rows q_p0_halls_firsts q_p0_halls_lasts p1 f_p0_halls_size a_p0_halls_rows a_p0_halls_firsts a_p0_halls_lasts o7 e8) ql_X8_X1_around dX8_signOf_50 [3, 4, 5, 6] rfl rfl rfl rfl rfl rfl ⟨Nat.le_of_ble_eq_true rfl, Nat.le_of_ble_eq_true rfl, rfl, rfl, Nat.le_of_ble_eq_true rfl, Nat.le_of_ble_eq_true rfl⟩ (Nat.le_of_ble_eq_true rfl) ?_
        refine z_iconst X ((-1) : Int32) dX8_signOf_53 (by decide) ?_
        refine z_icmp_eq X 62 dX8_signOf_54 (by decide) h (fun _ h => ?_) (fun _ h => ?_)
        · refine z_bipush X (46 : Int32) dX8_signOf_62 (by decide) ?_
          obtain ⟨e9, h⟩ := grd_p h
          exact z_zretR X hQ hr dX8_signOf_64 (nar_char e9) h
        · refine z_bipush X (95 : Int32) dX8_signOf_57 (by decide) ?_
          refine z_goto X 64 dX8_signOf_59 (by decide) ?_
          obtain ⟨e10, h⟩ := grd_p h
          exact z_zretR X hQ hr dX8_signOf_64 (nar_char e10) h
      · refine z_bipush X (111 : Int32) dX8_signOf_42 (by decide) ?_
        obtain ⟨e11, h⟩ := grd_p h
        exact z_zretR X hQ hr dX8_signOf_44 (nar_char e11) h
    · refine z_bipush X (35 : Int32) dX8_signOf_27 (by decide) ?_
      obtain ⟨e12, h⟩ := grd_p h
      exact z_zretR X hQ hr dX8_signOf_29 (nar_char e12) h
  · refine z_iload_n X 0 dX8_signOf_14 rfl rfl ?_
    obtain ⟨o13, e14, h⟩ := bnd_p h
    refine z_rdS (rest := []) X IR_P k_X8_digit (c_X8_digit l D g o1 o13 e14) ql_X8_X8_digit dX8_signOf_15 [] rfl rfl rfl ⟨Nat.le_of_ble_eq_true rfl, Nat.le_of_ble_eq_true rfl, rfl, rfl, Nat.le_of_ble_eq_true rfl, Nat.le_of_ble_eq_true rfl⟩ (Nat.le_of_ble_eq_true rfl) ?_
    obtain ⟨e15, h⟩ := grd_p h
    exact z_zretR X hQ hr dX8_signOf_18 (nar_char e15) h

def F_X8_putSign (p1 : Int32) (f_size : Int32) (a_signs : Nat → Int32) : Option (Int32 × (Nat → Int32)) :=
  brn ((20 : Int32) ≤ f_size) (some (f_size, a_signs)) (grd (inb f_size 20) (some ((f_size + (1 : Int32)), (upd a_signs f_size.toNatClampNeg (vp_nar .char p1)))))
theorem dX8_putSign_0 : decode cX8_putSign 0 = .ok (.aload_n 0, 1) := by decide +kernel
theorem dX8_putSign_1 : decode cX8_putSign 1 = .ok (.getfield 15, 3) := by decide +kernel
theorem dX8_putSign_4 : decode cX8_putSign 4 = .ok (.aload_n 0, 1) := by decide +kernel
theorem dX8_putSign_5 : decode cX8_putSign 5 = .ok (.getfield 9, 3) := by decide +kernel
theorem dX8_putSign_8 : decode cX8_putSign 8 = .ok (.arraylength, 1) := by decide +kernel
theorem dX8_putSign_9 : decode cX8_putSign 9 = .ok (.if_icmp .ge 23, 3) := by decide +kernel
theorem dX8_putSign_12 : decode cX8_putSign 12 = .ok (.aload_n 0, 1) := by decide +kernel
theorem dX8_putSign_13 : decode cX8_putSign 13 = .ok (.getfield 9, 3) := by decide +kernel
theorem dX8_putSign_16 : decode cX8_putSign 16 = .ok (.aload_n 0, 1) := by decide +kernel
theorem dX8_putSign_17 : decode cX8_putSign 17 = .ok (.getfield 15, 3) := by decide +kernel
theorem dX8_putSign_20 : decode cX8_putSign 20 = .ok (.iload_n 1, 1) := by decide +kernel
theorem dX8_putSign_21 : decode cX8_putSign 21 = .ok (.castore, 1) := by decide +kernel
theorem dX8_putSign_22 : decode cX8_putSign 22 = .ok (.aload_n 0, 1) := by decide +kernel
theorem dX8_putSign_23 : decode cX8_putSign 23 = .ok (.dup, 1) := by decide +kernel
theorem dX8_putSign_24 : decode cX8_putSign 24 = .ok (.getfield 15, 3) := by decide +kernel
theorem dX8_putSign_27 : decode cX8_putSign 27 = .ok (.iconst 1, 1) := by decide +kernel
theorem dX8_putSign_28 : decode cX8_putSign 28 = .ok (.iadd, 1) := by decide +kernel
theorem dX8_putSign_29 : decode cX8_putSign 29 = .ok (.putfield 15, 3) := by decide +kernel
theorem dX8_putSign_32 : decode cX8_putSign 32 = .ok (.return_, 1) := by decide +kernel
theorem k_X8_putSign : cardV yX8_putSign (Cond.code yX8_putSign cX8_putSign 2 none) 1 := ⟨⟨qi_X8_putSign, qv_X8_putSign⟩, qc_X8_putSign, qn_X8, by decide +kernel, by decide +kernel, by decide +kernel⟩
set_option maxHeartbeats 4000000 in
set_option maxRecDepth 100000 in
theorem c_X8_putSign (l : Launch) (D : va_G) (g : Nat → ClassId) (q_this q_signs : Nat) (p1 : Int32) (f_size : Int32) (a_signs : Nat → Int32) (o : Int32 × (Nat → Int32)) (h : F_X8_putSign p1 f_size a_signs = some o) : MW l yX8_putSign (Cond.code yX8_putSign cX8_putSign 2 none) { frames := 0, cells := 0, slots := 0, locals := 0 } D g [.ref q_this, .int p1] [(q_this, .inr (8, [.ref q_signs, .int f_size])), (q_signs, .inl (g 1, 20, .inl a_signs))] none [(q_this, .inr (8, [.ref q_signs, .int o.1])), (q_signs, .inl (g 1, 20, .inl o.2))] := by
  refine z_wr_start (by decide) (Nat.le_of_ble_eq_true rfl) ?_
  intro p e s m args below meth c Q A X hr hQ hA
  refine z_lv (lv' := [(0, .ref q_this), (1, .int p1)]) rfl ?_
  refine z_aload_n X 0 dX8_putSign_0 rfl rfl ?_
  refine z_get (q0 := 0) (k := 1) (ci := 8) X IW_P iw_X8 rfl qf_X8_X8_size (by decide) dX8_putSign_1 rfl rfl ?_
  refine z_aload_n X 0 dX8_putSign_4 rfl rfl ?_
  refine z_get (q0 := 0) (k := 0) (ci := 8) X IW_P iw_X8 rfl qf_X8_X8_signs (by decide) dX8_putSign_5 rfl rfl ?_
  refine z_alen (q0 := 1) (v := (20 : Int32)) X IW_P 1 dX8_putSign_8 rfl rfl rfl ?_
  refine z_icmp_ge X 32 dX8_putSign_9 (by decide) h (fun _ h => ?_) (fun _ h => ?_)
  · cases h
    exact z_vretW X hQ hA hr dX8_putSign_32
  · refine z_aload_n X 0 dX8_putSign_12 rfl rfl ?_
    refine z_get (q0 := 0) (k := 0) (ci := 8) X IW_P iw_X8 rfl qf_X8_X8_signs (by decide) dX8_putSign_13 rfl rfl ?_
    refine z_aload_n X 0 dX8_putSign_16 rfl rfl ?_
    refine z_get (q0 := 0) (k := 1) (ci := 8) X IW_P iw_X8 rfl qf_X8_X8_size (by decide) dX8_putSign_17 rfl rfl ?_
    refine z_iload_n X 1 dX8_putSign_20 rfl rfl ?_
    refine z_cast (q0 := 1) (ws' := [(q_this, .inr (8, [.ref q_signs, .int f_size])), (q_signs, .inl (g 1, 20, .inl (upd a_signs f_size.toNatClampNeg (vp_nar .char p1))))]) X dX8_putSign_21 rfl h rfl (fun h => ?_)
    refine z_aload_n X 0 dX8_putSign_22 rfl rfl ?_
    refine z_dup X dX8_putSign_23 rfl ?_
    refine z_get (q0 := 0) (k := 1) (ci := 8) X IW_P iw_X8 rfl qf_X8_X8_size (by decide) dX8_putSign_24 rfl rfl ?_
    refine z_iconst X (1 : Int32) dX8_putSign_27 (by decide) ?_
    refine z_iadd X dX8_putSign_28 ?_
    refine z_put (q0 := 0) (k := 1) (ci := 8) (ws' := [(q_this, .inr (8, [.ref q_signs, .int (f_size + (1 : Int32))])), (q_signs, .inl (g 1, 20, .inl (upd a_signs f_size.toNatClampNeg (vp_nar .char p1))))]) X iw_X8 tyX8_ok nmX8 rfl qf_X8_X8_size (by decide) rfl rfl dX8_putSign_29 rfl rfl rfl (Nat.le_of_ble_eq_true rfl) rfl ?_
    cases h
    exact z_vretW X hQ hA hr dX8_putSign_32

def L_X8_writeRow_7 (p2 : Int32) (f_p1_houses_size : Int32) (a_p1_houses_cells : Nat → Int32) (f_p1_halls_size : Int32) (a_p1_halls_rows : Nat → Int32) (a_p1_halls_firsts : Nat → Int32) (a_p1_halls_lasts : Nat → Int32) (f_p1_posts_size : Int32) (a_p1_posts_cells : Nat → Int32) (a_p1_blocks : Nat → Int32) : Nat → Int32 → (Int32) → (Nat → Int32) → Option (Int32 × Int32 × (Nat → Int32))
  | 0, _, _, _ => none
  | _n + 1, x3, f_size, a_signs =>
    brn ((8 : Int32) ≤ x3) (some (f_size, f_size, a_signs)) (bnd (F_X0_cellAt p2 x3) (fun o1 => bnd (F_X8_signOf o1 f_p1_houses_size a_p1_houses_cells f_p1_halls_size a_p1_halls_rows a_p1_halls_firsts a_p1_halls_lasts f_p1_posts_size a_p1_posts_cells a_p1_blocks) (fun o3 => bnd (F_X8_putSign o3 f_size a_signs) (fun o5 => L_X8_writeRow_7 p2 f_p1_houses_size a_p1_houses_cells f_p1_halls_size a_p1_halls_rows a_p1_halls_firsts a_p1_halls_lasts f_p1_posts_size a_p1_posts_cells a_p1_blocks _n (x3 + 1) o5.1 o5.2))))

def F_X8_writeRow (p2 : Int32) (f_p1_houses_size : Int32) (a_p1_houses_cells : Nat → Int32) (f_p1_halls_size : Int32) (a_p1_halls_rows : Nat → Int32) (a_p1_halls_firsts : Nat → Int32) (a_p1_halls_lasts : Nat → Int32) (f_p1_posts_size : Int32) (a_p1_posts_cells : Nat → Int32) (a_p1_blocks : Nat → Int32) (f_size : Int32) (a_signs : Nat → Int32) : Option (Int32 × Int32 × (Nat → Int32)) :=
  L_X8_writeRow_7 p2 f_p1_houses_size a_p1_houses_cells f_p1_halls_size a_p1_halls_rows a_p1_halls_firsts a_p1_halls_lasts f_p1_posts_size a_p1_posts_cells a_p1_blocks 100 (0 : Int32) (0 : Int32) a_signs
theorem dX8_writeRow_0 : decode cX8_writeRow 0 = .ok (.aload_n 0, 1) := by decide +kernel
theorem dX8_writeRow_1 : decode cX8_writeRow 1 = .ok (.iconst 0, 1) := by decide +kernel
theorem dX8_writeRow_2 : decode cX8_writeRow 2 = .ok (.putfield 15, 3) := by decide +kernel
theorem dX8_writeRow_5 : decode cX8_writeRow 5 = .ok (.iconst 0, 1) := by decide +kernel
theorem dX8_writeRow_6 : decode cX8_writeRow 6 = .ok (.istore_n 3, 1) := by decide +kernel
theorem dX8_writeRow_7 : decode cX8_writeRow 7 = .ok (.iload_n 3, 1) := by decide +kernel
theorem dX8_writeRow_8 : decode cX8_writeRow 8 = .ok (.bipush 8, 2) := by decide +kernel
theorem dX8_writeRow_10 : decode cX8_writeRow 10 = .ok (.if_icmp .ge 22, 3) := by decide +kernel
theorem dX8_writeRow_13 : decode cX8_writeRow 13 = .ok (.aload_n 0, 1) := by decide +kernel
theorem dX8_writeRow_14 : decode cX8_writeRow 14 = .ok (.aload_n 1, 1) := by decide +kernel
theorem dX8_writeRow_15 : decode cX8_writeRow 15 = .ok (.iload_n 2, 1) := by decide +kernel
theorem dX8_writeRow_16 : decode cX8_writeRow 16 = .ok (.iload_n 3, 1) := by decide +kernel
theorem dX8_writeRow_17 : decode cX8_writeRow 17 = .ok (.invokestatic 19, 3) := by decide +kernel
theorem dX8_writeRow_20 : decode cX8_writeRow 20 = .ok (.invokestatic 25, 3) := by decide +kernel
theorem dX8_writeRow_23 : decode cX8_writeRow 23 = .ok (.invokevirtual 29, 3) := by decide +kernel
theorem dX8_writeRow_26 : decode cX8_writeRow 26 = .ok (.iinc 3 1, 3) := by decide +kernel
theorem dX8_writeRow_29 : decode cX8_writeRow 29 = .ok (.goto (-22), 3) := by decide +kernel
theorem dX8_writeRow_32 : decode cX8_writeRow 32 = .ok (.aload_n 0, 1) := by decide +kernel
theorem dX8_writeRow_33 : decode cX8_writeRow 33 = .ok (.getfield 15, 3) := by decide +kernel
theorem dX8_writeRow_36 : decode cX8_writeRow 36 = .ok (.ireturn, 1) := by decide +kernel
theorem k_X8_writeRow : cardV yX8_writeRow (Cond.code yX8_writeRow cX8_writeRow 4 (some .int)) 2 := ⟨⟨qi_X8_writeRow, qv_X8_writeRow⟩, qc_X8_writeRow, qn_X8, by decide +kernel, by decide +kernel, by decide +kernel⟩
set_option maxHeartbeats 4000000 in
set_option maxRecDepth 100000 in
theorem c_X8_writeRow (l : Launch) (D : va_G) (g : Nat → ClassId) (q_this q_signs q_p1 q_p1_houses q_p1_halls q_p1_posts q_p1_blocks q_p1_kinds q_p1_houses_cells q_p1_houses_froms q_p1_houses_tos q_p1_houses_rings q_p1_houses_pranks q_p1_halls_rows q_p1_halls_firsts q_p1_halls_lasts q_p1_posts_cells q_p1_posts_tolds : Nat) (p2 : Int32) (f_size : Int32) (a_signs : Nat → Int32) (f_p1_hour : Int32) (f_p1_day : Int32) (f_p1_prankHouse : Int32) (f_p1_bells : Int32) (f_p1_echoes : Int32) (f_p1_bellPranks : Int32) (f_p1_houses_size : Int32) (a_p1_houses_cells : Nat → Int32) (f_p1_halls_size : Int32) (a_p1_halls_rows : Nat → Int32) (a_p1_halls_firsts : Nat → Int32) (a_p1_halls_lasts : Nat → Int32) (f_p1_posts_size : Int32) (a_p1_posts_cells : Nat → Int32) (a_p1_blocks : Nat → Int32) (o : Int32 × Int32 × (Nat → Int32)) (h : F_X8_writeRow p2 f_p1_houses_size a_p1_houses_cells f_p1_halls_size a_p1_halls_rows a_p1_halls_firsts a_p1_halls_lasts f_p1_posts_size a_p1_posts_cells a_p1_blocks f_size a_signs = some o) : MW l yX8_writeRow (Cond.code yX8_writeRow cX8_writeRow 4 (some .int)) { frames := 3, cells := 0, slots := 0, locals := 67 } D g [.ref q_this, .ref q_p1, .int p2] [(q_this, .inr (8, [.ref q_signs, .int f_size])), (q_signs, .inl (g 1, 20, .inl a_signs)), (q_p1, .inr (9, [.ref q_p1_houses, .ref q_p1_halls, .ref q_p1_posts, .ref q_p1_blocks, .ref q_p1_kinds, .int f_p1_hour, .int f_p1_day, .int f_p1_prankHouse, .int f_p1_bells, .int f_p1_echoes, .int f_p1_bellPranks])), (q_p1_houses, .inr (3, [.int f_p1_houses_size, .ref q_p1_houses_cells, .ref q_p1_houses_froms, .ref q_p1_houses_tos, .ref q_p1_houses_rings, .ref q_p1_houses_pranks])), (q_p1_houses_cells, .inl (g 0, 10, .inl a_p1_houses_cells)), (q_p1_halls, .inr (2, [.int f_p1_halls_size, .ref q_p1_halls_rows, .ref q_p1_halls_firsts, .ref q_p1_halls_lasts])), (q_p1_halls_rows, .inl (g 0, 4, .inl a_p1_halls_rows)), (q_p1_halls_firsts, .inl (g 0, 4, .inl a_p1_halls_firsts)), (q_p1_halls_lasts, .inl (g 0, 4, .inl a_p1_halls_lasts)), (q_p1_posts, .inr (6, [.int f_p1_posts_size, .ref q_p1_posts_cells, .ref q_p1_posts_tolds])), (q_p1_posts_cells, .inl (g 0, 4, .inl a_p1_posts_cells)), (q_p1_blocks, .inl (g 0, 64, .inl a_p1_blocks))] (some (.int o.1)) [(q_this, .inr (8, [.ref q_signs, .int o.2.1])), (q_signs, .inl (g 1, 20, .inl o.2.2)), (q_p1, .inr (9, [.ref q_p1_houses, .ref q_p1_halls, .ref q_p1_posts, .ref q_p1_blocks, .ref q_p1_kinds, .int f_p1_hour, .int f_p1_day, .int f_p1_prankHouse, .int f_p1_bells, .int f_p1_echoes, .int f_p1_bellPranks])), (q_p1_houses, .inr (3, [.int f_p1_houses_size, .ref q_p1_houses_cells, .ref q_p1_houses_froms, .ref q_p1_houses_tos, .ref q_p1_houses_rings, .ref q_p1_houses_pranks])), (q_p1_houses_cells, .inl (g 0, 10, .inl a_p1_houses_cells)), (q_p1_halls, .inr (2, [.int f_p1_halls_size, .ref q_p1_halls_rows, .ref q_p1_halls_firsts, .ref q_p1_halls_lasts])), (q_p1_halls_rows, .inl (g 0, 4, .inl a_p1_halls_rows)), (q_p1_halls_firsts, .inl (g 0, 4, .inl a_p1_halls_firsts)), (q_p1_halls_lasts, .inl (g 0, 4, .inl a_p1_halls_lasts)), (q_p1_posts, .inr (6, [.int f_p1_posts_size, .ref q_p1_posts_cells, .ref q_p1_posts_tolds])), (q_p1_posts_cells, .inl (g 0, 4, .inl a_p1_posts_cells)), (q_p1_blocks, .inl (g 0, 64, .inl a_p1_blocks))] := by
  refine z_wr_start (by decide) (Nat.le_of_ble_eq_true rfl) ?_
  intro p e s m args below meth c Q A X hr hQ hA
  refine z_lv (lv' := [(0, .ref q_this), (1, .ref q_p1), (2, .int p2)]) rfl ?_
  have H7 : ∀ (n : Nat) (x3 : Int32) (f_size : Int32) (a_signs : Nat → Int32), L_X8_writeRow_7 p2 f_p1_houses_size a_p1_houses_cells f_p1_halls_size a_p1_halls_rows a_p1_halls_firsts a_p1_halls_lasts f_p1_posts_size a_p1_posts_cells a_p1_blocks  n x3 f_size a_signs = some o → Z p l e { frames := 3, cells := 0, slots := 0, locals := 67 } s m args below meth c Q 4 0 0 (IW D A s [(q_this, .inr (8, [.ref q_signs, .int f_size])), (q_signs, .inl (g 1, 20, .inl a_signs)), (q_p1, .inr (9, [.ref q_p1_houses, .ref q_p1_halls, .ref q_p1_posts, .ref q_p1_blocks, .ref q_p1_kinds, .int f_p1_hour, .int f_p1_day, .int f_p1_prankHouse, .int f_p1_bells, .int f_p1_echoes, .int f_p1_bellPranks])), (q_p1_houses, .inr (3, [.int f_p1_houses_size, .ref q_p1_houses_cells, .ref q_p1_houses_froms, .ref q_p1_houses_tos, .ref q_p1_houses_rings, .ref q_p1_houses_pranks])), (q_p1_houses_cells, .inl (g 0, 10, .inl a_p1_houses_cells)), (q_p1_halls, .inr (2, [.int f_p1_halls_size, .ref q_p1_halls_rows, .ref q_p1_halls_firsts, .ref q_p1_halls_lasts])), (q_p1_halls_rows, .inl (g 0, 4, .inl a_p1_halls_rows)), (q_p1_halls_firsts, .inl (g 0, 4, .inl a_p1_halls_firsts)), (q_p1_halls_lasts, .inl (g 0, 4, .inl a_p1_halls_lasts)), (q_p1_posts, .inr (6, [.int f_p1_posts_size, .ref q_p1_posts_cells, .ref q_p1_posts_tolds])), (q_p1_posts_cells, .inl (g 0, 4, .inl a_p1_posts_cells)), (q_p1_blocks, .inl (g 0, 64, .inl a_p1_blocks))]) 7 [(0, .ref q_this), (1, .ref q_p1), (2, .int p2), (3, .int x3)] [] := by
    intro n
    induction n with
    | zero => intro x3 f_size a_signs h; cases h
    | succ n7 ih7 =>
      intro x3 f_size a_signs h
      refine z_iload_n X 3 dX8_writeRow_7 rfl rfl ?_
      refine z_bipush X (8 : Int32) dX8_writeRow_8 (by decide) ?_
      refine z_icmp_ge X 32 dX8_writeRow_10 (by decide) h (fun _ h => ?_) (fun _ h => ?_)
      · refine z_aload_n X 0 dX8_writeRow_32 rfl rfl ?_
        refine z_get (q0 := 0) (k := 1) (ci := 8) X IW_P iw_X8 rfl qf_X8_X8_size (by decide) dX8_writeRow_33 rfl rfl ?_
        cases h
        exact z_iretW X hQ hA hr dX8_writeRow_36
      · refine z_aload_n X 0 dX8_writeRow_13 rfl rfl ?_
        refine z_aload_n X 1 dX8_writeRow_14 rfl rfl ?_
        refine z_iload_n X 2 dX8_writeRow_15 rfl rfl ?_
        refine z_iload_n X 3 dX8_writeRow_16 rfl rfl ?_
        obtain ⟨o1, e2, h⟩ := bnd_p h
        refine z_rdS (rest := [.ref q_p1, .ref q_this]) X IW_P k_X0_cellAt (c_X0_cellAt l D g p2 x3 o1 e2) ql_X8_X0_cellAt dX8_writeRow_17 [] rfl rfl rfl ⟨Nat.le_of_ble_eq_true rfl, Nat.le_of_ble_eq_true rfl, rfl, rfl, Nat.le_of_ble_eq_true rfl, Nat.le_of_ble_eq_true rfl⟩ (Nat.le_of_ble_eq_true rfl) ?_
        obtain ⟨o3, e4, h⟩ := bnd_p h
        refine z_rdS (rest := [.ref q_this]) X IW_P k_X8_signOf (c_X8_signOf l D g q_p1 q_p1_houses q_p1_halls q_p1_posts q_p1_blocks q_p1_kinds q_p1_houses_cells q_p1_houses_froms q_p1_houses_tos q_p1_houses_rings q_p1_houses_pranks q_p1_halls_rows q_p1_halls_firsts q_p1_halls_lasts q_p1_posts_cells q_p1_posts_tolds o1 f_p1_hour f_p1_day f_p1_prankHouse f_p1_bells f_p1_echoes f_p1_bellPranks f_p1_houses_size a_p1_houses_cells f_p1_halls_size a_p1_halls_rows a_p1_halls_firsts a_p1_halls_lasts f_p1_posts_size a_p1_posts_cells a_p1_blocks o3 e4) ql_X8_X8_signOf dX8_writeRow_20 [2, 3, 4, 5, 6, 7, 8, 9, 10, 11] rfl rfl rfl ⟨Nat.le_of_ble_eq_true rfl, Nat.le_of_ble_eq_true rfl, rfl, rfl, Nat.le_of_ble_eq_true rfl, Nat.le_of_ble_eq_true rfl⟩ (Nat.le_of_ble_eq_true rfl) ?_
        obtain ⟨o5, e6, h⟩ := bnd_p h
        refine z_wrV (rest := []) (q0 := 0) (ci := 8) (ws' := [(q_this, .inr (8, [.ref q_signs, .int o5.1])), (q_signs, .inl (g 1, 20, .inl o5.2)), (q_p1, .inr (9, [.ref q_p1_houses, .ref q_p1_halls, .ref q_p1_posts, .ref q_p1_blocks, .ref q_p1_kinds, .int f_p1_hour, .int f_p1_day, .int f_p1_prankHouse, .int f_p1_bells, .int f_p1_echoes, .int f_p1_bellPranks])), (q_p1_houses, .inr (3, [.int f_p1_houses_size, .ref q_p1_houses_cells, .ref q_p1_houses_froms, .ref q_p1_houses_tos, .ref q_p1_houses_rings, .ref q_p1_houses_pranks])), (q_p1_houses_cells, .inl (g 0, 10, .inl a_p1_houses_cells)), (q_p1_halls, .inr (2, [.int f_p1_halls_size, .ref q_p1_halls_rows, .ref q_p1_halls_firsts, .ref q_p1_halls_lasts])), (q_p1_halls_rows, .inl (g 0, 4, .inl a_p1_halls_rows)), (q_p1_halls_firsts, .inl (g 0, 4, .inl a_p1_halls_firsts)), (q_p1_halls_lasts, .inl (g 0, 4, .inl a_p1_halls_lasts)), (q_p1_posts, .inr (6, [.int f_p1_posts_size, .ref q_p1_posts_cells, .ref q_p1_posts_tolds])), (q_p1_posts_cells, .inl (g 0, 4, .inl a_p1_posts_cells)), (q_p1_blocks, .inl (g 0, 64, .inl a_p1_blocks))]) (wr := [(q_p1, .inr (9, [.ref q_p1_houses, .ref q_p1_halls, .ref q_p1_posts, .ref q_p1_blocks, .ref q_p1_kinds, .int f_p1_hour, .int f_p1_day, .int f_p1_prankHouse, .int f_p1_bells, .int f_p1_echoes, .int f_p1_bellPranks])), (q_p1_houses, .inr (3, [.int f_p1_houses_size, .ref q_p1_houses_cells, .ref q_p1_houses_froms, .ref q_p1_houses_tos, .ref q_p1_houses_rings, .ref q_p1_houses_pranks])), (q_p1_houses_cells, .inl (g 0, 10, .inl a_p1_houses_cells)), (q_p1_halls, .inr (2, [.int f_p1_halls_size, .ref q_p1_halls_rows, .ref q_p1_halls_firsts, .ref q_p1_halls_lasts])), (q_p1_halls_rows, .inl (g 0, 4, .inl a_p1_halls_rows)), (q_p1_halls_firsts, .inl (g 0, 4, .inl a_p1_halls_firsts)), (q_p1_halls_lasts, .inl (g 0, 4, .inl a_p1_halls_lasts)), (q_p1_posts, .inr (6, [.int f_p1_posts_size, .ref q_p1_posts_cells, .ref q_p1_posts_tolds])), (q_p1_posts_cells, .inl (g 0, 4, .inl a_p1_posts_cells)), (q_p1_blocks, .inl (g 0, 64, .inl a_p1_blocks))]) (as := [q_this, q_signs, q_p1, q_p1_houses, q_p1_houses_cells, q_p1_halls, q_p1_halls_rows, q_p1_halls_firsts, q_p1_halls_lasts, q_p1_posts, q_p1_posts_cells, q_p1_blocks]) X k_X8_putSign (c_X8_putSign l D g q_this q_signs o3 f_size a_signs o5 e6) ql_X8_X8_putSign dX8_writeRow_23 [0, 1] [2, 3, 4, 5, 6, 7, 8, 9, 10, 11] ⟨rfl, rfl, rfl, rfl, rfl, rfl, rfl, rfl⟩ rfl rfl rfl rfl rfl ⟨Nat.le_of_ble_eq_true rfl, Nat.le_of_ble_eq_true rfl, rfl, rfl, Nat.le_of_ble_eq_true rfl, Nat.le_of_ble_eq_true rfl⟩ (Nat.le_of_ble_eq_true rfl) ?_
        refine z_iinc X 3 [(3, .int (x3 + 1)), (0, .ref q_this), (1, .ref q_p1), (2, .int p2)] dX8_writeRow_26 rfl rfl (by decide) rfl ?_
        refine z_goto X 7 dX8_writeRow_29 (by decide) ?_
        refine z_sub (lv' := [(0, .ref q_this), (1, .ref q_p1), (2, .int p2), (3, .int (x3 + 1))]) [1, 2, 3, 0] rfl ?_
        exact ih7 (x3 + 1) o5.1 o5.2 h
  refine z_aload_n X 0 dX8_writeRow_0 rfl rfl ?_
  refine z_iconst X (0 : Int32) dX8_writeRow_1 (by decide) ?_
  refine z_put (q0 := 0) (k := 1) (ci := 8) (ws' := [(q_this, .inr (8, [.ref q_signs, .int (0 : Int32)])), (q_signs, .inl (g 1, 20, .inl a_signs)), (q_p1, .inr (9, [.ref q_p1_houses, .ref q_p1_halls, .ref q_p1_posts, .ref q_p1_blocks, .ref q_p1_kinds, .int f_p1_hour, .int f_p1_day, .int f_p1_prankHouse, .int f_p1_bells, .int f_p1_echoes, .int f_p1_bellPranks])), (q_p1_houses, .inr (3, [.int f_p1_houses_size, .ref q_p1_houses_cells, .ref q_p1_houses_froms, .ref q_p1_houses_tos, .ref q_p1_houses_rings, .ref q_p1_houses_pranks])), (q_p1_houses_cells, .inl (g 0, 10, .inl a_p1_houses_cells)), (q_p1_halls, .inr (2, [.int f_p1_halls_size, .ref q_p1_halls_rows, .ref q_p1_halls_firsts, .ref q_p1_halls_lasts])), (q_p1_halls_rows, .inl (g 0, 4, .inl a_p1_halls_rows)), (q_p1_halls_firsts, .inl (g 0, 4, .inl a_p1_halls_firsts)), (q_p1_halls_lasts, .inl (g 0, 4, .inl a_p1_halls_lasts)), (q_p1_posts, .inr (6, [.int f_p1_posts_size, .ref q_p1_posts_cells, .ref q_p1_posts_tolds])), (q_p1_posts_cells, .inl (g 0, 4, .inl a_p1_posts_cells)), (q_p1_blocks, .inl (g 0, 64, .inl a_p1_blocks))]) X iw_X8 tyX8_ok nmX8 rfl qf_X8_X8_size (by decide) rfl rfl dX8_writeRow_2 rfl rfl rfl (Nat.le_of_ble_eq_true rfl) rfl ?_
  refine z_iconst X (0 : Int32) dX8_writeRow_5 (by decide) ?_
  refine z_istore_n X [(3, .int (0 : Int32)), (0, .ref q_this), (1, .ref q_p1), (2, .int p2)] dX8_writeRow_6 rfl (by decide) rfl ?_
  refine z_sub (lv' := [(0, .ref q_this), (1, .ref q_p1), (2, .int p2), (3, .int (0 : Int32))]) [1, 2, 3, 0] rfl ?_
  exact H7 100 (0 : Int32) (0 : Int32) a_signs h

def J_X8_putNumber_17 (p1 : Int32) (f_size : Int32) (a_signs : Nat → Int32) : Option (Int32 × (Nat → Int32)) :=
  bnd (F_X8_digit (p1 - p1 / (10 : Int32) * (10 : Int32))) (fun o1 => bnd (F_X8_putSign o1 f_size a_signs) (fun o3 => some (o3.1, o3.2)))

def F_X8_putNumber (p1 : Int32) (f_size : Int32) (a_signs : Nat → Int32) : Option (Int32 × (Nat → Int32)) :=
  brn (p1 < (10 : Int32)) (J_X8_putNumber_17 p1 f_size a_signs) (bnd (F_X8_digit (p1 / (10 : Int32))) (fun o5 => bnd (F_X8_putSign o5 f_size a_signs) (fun o7 => J_X8_putNumber_17 p1 o7.1 o7.2)))
theorem dX8_putNumber_0 : decode cX8_putNumber 0 = .ok (.iload_n 1, 1) := by decide +kernel
theorem dX8_putNumber_1 : decode cX8_putNumber 1 = .ok (.bipush 10, 2) := by decide +kernel
theorem dX8_putNumber_3 : decode cX8_putNumber 3 = .ok (.if_icmp .lt 14, 3) := by decide +kernel
theorem dX8_putNumber_6 : decode cX8_putNumber 6 = .ok (.aload_n 0, 1) := by decide +kernel
theorem dX8_putNumber_7 : decode cX8_putNumber 7 = .ok (.iload_n 1, 1) := by decide +kernel
theorem dX8_putNumber_8 : decode cX8_putNumber 8 = .ok (.bipush 10, 2) := by decide +kernel
theorem dX8_putNumber_10 : decode cX8_putNumber 10 = .ok (.idiv, 1) := by decide +kernel
theorem dX8_putNumber_11 : decode cX8_putNumber 11 = .ok (.invokestatic 45, 3) := by decide +kernel
theorem dX8_putNumber_14 : decode cX8_putNumber 14 = .ok (.invokevirtual 29, 3) := by decide +kernel
theorem dX8_putNumber_17 : decode cX8_putNumber 17 = .ok (.aload_n 0, 1) := by decide +kernel
theorem dX8_putNumber_18 : decode cX8_putNumber 18 = .ok (.iload_n 1, 1) := by decide +kernel
theorem dX8_putNumber_19 : decode cX8_putNumber 19 = .ok (.bipush 10, 2) := by decide +kernel
theorem dX8_putNumber_21 : decode cX8_putNumber 21 = .ok (.irem, 1) := by decide +kernel
theorem dX8_putNumber_22 : decode cX8_putNumber 22 = .ok (.invokestatic 45, 3) := by decide +kernel
theorem dX8_putNumber_25 : decode cX8_putNumber 25 = .ok (.invokevirtual 29, 3) := by decide +kernel
theorem dX8_putNumber_28 : decode cX8_putNumber 28 = .ok (.return_, 1) := by decide +kernel
theorem k_X8_putNumber : cardV yX8_putNumber (Cond.code yX8_putNumber cX8_putNumber 2 none) 1 := ⟨⟨qi_X8_putNumber, qv_X8_putNumber⟩, qc_X8_putNumber, qn_X8, by decide +kernel, by decide +kernel, by decide +kernel⟩
set_option maxHeartbeats 4000000 in
set_option maxRecDepth 100000 in
theorem c_X8_putNumber (l : Launch) (D : va_G) (g : Nat → ClassId) (q_this q_signs : Nat) (p1 : Int32) (f_size : Int32) (a_signs : Nat → Int32) (o : Int32 × (Nat → Int32)) (h : F_X8_putNumber p1 f_size a_signs = some o) : MW l yX8_putNumber (Cond.code yX8_putNumber cX8_putNumber 2 none) { frames := 1, cells := 0, slots := 0, locals := 21 } D g [.ref q_this, .int p1] [(q_this, .inr (8, [.ref q_signs, .int f_size])), (q_signs, .inl (g 1, 20, .inl a_signs))] none [(q_this, .inr (8, [.ref q_signs, .int o.1])), (q_signs, .inl (g 1, 20, .inl o.2))] := by
  refine z_wr_start (by decide) (Nat.le_of_ble_eq_true rfl) ?_
  intro p e s m args below meth c Q A X hr hQ hA
  refine z_lv (lv' := [(0, .ref q_this), (1, .int p1)]) rfl ?_
  have H17 : ∀ (f_size : Int32) (a_signs : Nat → Int32), J_X8_putNumber_17 p1 f_size a_signs = some o → Z p l e { frames := 1, cells := 0, slots := 0, locals := 21 } s m args below meth c Q 2 0 0 (IW D A s [(q_this, .inr (8, [.ref q_signs, .int f_size])), (q_signs, .inl (g 1, 20, .inl a_signs))]) 17 [(0, .ref q_this), (1, .int p1)] [] := by
    intro f_size a_signs h
    refine z_aload_n X 0 dX8_putNumber_17 rfl rfl ?_
    refine z_iload_n X 1 dX8_putNumber_18 rfl rfl ?_
    refine z_bipush X (10 : Int32) dX8_putNumber_19 (by decide) ?_
    refine z_irem X dX8_putNumber_21 (by decide) ?_
    obtain ⟨o1, e2, h⟩ := bnd_p h
    refine z_rdS (rest := [.ref q_this]) X IW_P k_X8_digit (c_X8_digit l D g (p1 - p1 / (10 : Int32) * (10 : Int32)) o1 e2) ql_X8_X8_digit dX8_putNumber_22 [] rfl rfl rfl ⟨Nat.le_of_ble_eq_true rfl, Nat.le_of_ble_eq_true rfl, rfl, rfl, Nat.le_of_ble_eq_true rfl, Nat.le_of_ble_eq_true rfl⟩ (Nat.le_of_ble_eq_true rfl) ?_
    obtain ⟨o3, e4, h⟩ := bnd_p h
    refine z_wrV (rest := []) (q0 := 0) (ci := 8) (ws' := [(q_this, .inr (8, [.ref q_signs, .int o3.1])), (q_signs, .inl (g 1, 20, .inl o3.2))]) (wr := []) (as := [q_this, q_signs]) X k_X8_putSign (c_X8_putSign l D g q_this q_signs o1 f_size a_signs o3 e4) ql_X8_X8_putSign dX8_putNumber_25 [0, 1] [] ⟨rfl, rfl, rfl, rfl, rfl, rfl, rfl, rfl⟩ rfl rfl rfl rfl rfl ⟨Nat.le_of_ble_eq_true rfl, Nat.le_of_ble_eq_true rfl, rfl, rfl, Nat.le_of_ble_eq_true rfl, Nat.le_of_ble_eq_true rfl⟩ (Nat.le_of_ble_eq_true rfl) ?_
    cases h
    exact z_vretW X hQ hA hr dX8_putNumber_28
  refine z_iload_n X 1 dX8_putNumber_0 rfl rfl ?_
  refine z_bipush X (10 : Int32) dX8_putNumber_1 (by decide) ?_
  refine z_icmp_lt X 17 dX8_putNumber_3 (by decide) h (fun _ h => ?_) (fun _ h => ?_)
  · exact H17 f_size a_signs h
  · refine z_aload_n X 0 dX8_putNumber_6 rfl rfl ?_
    refine z_iload_n X 1 dX8_putNumber_7 rfl rfl ?_
    refine z_bipush X (10 : Int32) dX8_putNumber_8 (by decide) ?_
    refine z_idiv X dX8_putNumber_10 (by decide) ?_
    obtain ⟨o5, e6, h⟩ := bnd_p h
    refine z_rdS (rest := [.ref q_this]) X IW_P k_X8_digit (c_X8_digit l D g (p1 / (10 : Int32)) o5 e6) ql_X8_X8_digit dX8_putNumber_11 [] rfl rfl rfl ⟨Nat.le_of_ble_eq_true rfl, Nat.le_of_ble_eq_true rfl, rfl, rfl, Nat.le_of_ble_eq_true rfl, Nat.le_of_ble_eq_true rfl⟩ (Nat.le_of_ble_eq_true rfl) ?_
    obtain ⟨o7, e8, h⟩ := bnd_p h
    refine z_wrV (rest := []) (q0 := 0) (ci := 8) (ws' := [(q_this, .inr (8, [.ref q_signs, .int o7.1])), (q_signs, .inl (g 1, 20, .inl o7.2))]) (wr := []) (as := [q_this, q_signs]) X k_X8_putSign (c_X8_putSign l D g q_this q_signs o5 f_size a_signs o7 e8) ql_X8_X8_putSign dX8_putNumber_14 [0, 1] [] ⟨rfl, rfl, rfl, rfl, rfl, rfl, rfl, rfl⟩ rfl rfl rfl rfl rfl ⟨Nat.le_of_ble_eq_true rfl, Nat.le_of_ble_eq_true rfl, rfl, rfl, Nat.le_of_ble_eq_true rfl, Nat.le_of_ble_eq_true rfl⟩ (Nat.le_of_ble_eq_true rfl) ?_
    exact H17 o7.1 o7.2 h

def J_X8_writeHouse_110 (p2 : Int32) (p3 : Int32) (a_p1_cells : Nat → Int32) (a_p1_froms : Nat → Int32) (a_p1_tos : Nat → Int32) (a_p1_pranks : Nat → Int32) (f_size : Int32) (a_signs : Nat → Int32) : Option (Int32 × Int32 × (Nat → Int32)) :=
  some (f_size, f_size, a_signs)

def L_X8_writeHouse_81 (p2 : Int32) (p3 : Int32) (a_p1_cells : Nat → Int32) (a_p1_froms : Nat → Int32) (a_p1_tos : Nat → Int32) (a_p1_pranks : Nat → Int32) : Nat → Int32 → (Int32) → (Nat → Int32) → Option (Int32 × Int32 × (Nat → Int32))
  | 0, _, _, _ => none
  | _n + 1, x4, f_size, a_signs =>
    brn ((9 : Int32) ≤ x4) (J_X8_writeHouse_110 p2 p3 a_p1_cells a_p1_froms a_p1_tos a_p1_pranks f_size a_signs) (bnd (F_X2_pranksAt p2 a_p1_pranks) (fun o13 => brn (o13 ≤ x4) (J_X8_writeHouse_110 p2 p3 a_p1_cells a_p1_froms a_p1_tos a_p1_pranks f_size a_signs) (bnd (F_X8_putSign (33 : Int32) f_size a_signs) (fun o15 => L_X8_writeHouse_81 p2 p3 a_p1_cells a_p1_froms a_p1_tos a_p1_pranks _n (x4 + 1) o15.1 o15.2))))

def J_X8_writeHouse_78 (p2 : Int32) (p3 : Int32) (a_p1_cells : Nat → Int32) (a_p1_froms : Nat → Int32) (a_p1_tos : Nat → Int32) (a_p1_pranks : Nat → Int32) (f_size : Int32) (a_signs : Nat → Int32) : Option (Int32 × Int32 × (Nat → Int32)) :=
  L_X8_writeHouse_81 p2 p3 a_p1_cells a_p1_froms a_p1_tos a_p1_pranks 100 (0 : Int32) f_size a_signs

def J_X8_writeHouse_63 (p2 : Int32) (p3 : Int32) (a_p1_cells : Nat → Int32) (a_p1_froms : Nat → Int32) (a_p1_tos : Nat → Int32) (a_p1_pranks : Nat → Int32) (f_size : Int32) (a_signs : Nat → Int32) : Option (Int32 × Int32 × (Nat → Int32)) :=
  bnd (F_X2_isAsleep p2 p3 a_p1_froms a_p1_tos) (fun o11 => brn (o11 = 0) (J_X8_writeHouse_78 p2 p3 a_p1_cells a_p1_froms a_p1_tos a_p1_pranks f_size a_signs) (bnd (F_X8_putSign (122 : Int32) f_size a_signs) (fun o17 => J_X8_writeHouse_78 p2 p3 a_p1_cells a_p1_froms a_p1_tos a_p1_pranks o17.1 o17.2)))

def F_X8_writeHouse (p2 : Int32) (p3 : Int32) (a_p1_cells : Nat → Int32) (a_p1_froms : Nat → Int32) (a_p1_tos : Nat → Int32) (a_p1_pranks : Nat → Int32) (f_size : Int32) (a_signs : Nat → Int32) : Option (Int32 × Int32 × (Nat → Int32)) :=
  bnd (F_X8_putNumber p2 (0 : Int32) a_signs) (fun o1 => bnd (F_X8_putSign (64 : Int32) o1.1 o1.2) (fun o3 => bnd (F_X2_cellAt p2 a_p1_cells) (fun o5 => bnd (F_X8_putNumber o5 o3.1 o3.2) (fun o7 => bnd (F_X2_sleepAt p2 a_p1_froms a_p1_tos) (fun o9 => brn (o9 ≤ 0) (J_X8_writeHouse_63 p2 p3 a_p1_cells a_p1_froms a_p1_tos a_p1_pranks o7.1 o7.2) (bnd (F_X8_putSign (32 : Int32) o7.1 o7.2) (fun o19 => bnd (F_X2_fromAt p2 a_p1_froms) (fun o21 => bnd (F_X8_putNumber o21 o19.1 o19.2) (fun o23 => bnd (F_X8_putSign (45 : Int32) o23.1 o23.2) (fun o25 => bnd (F_X2_toAt p2 a_p1_tos) (fun o27 => bnd (F_X8_putNumber o27 o25.1 o25.2) (fun o29 => J_X8_writeHouse_63 p2 p3 a_p1_cells a_p1_froms a_p1_tos a_p1_pranks o29.1 o29.2))))))))))))
theorem dX8_writeHouse_0 : decode cX8_writeHouse 0 = .ok (.aload_n 0, 1) := by decide +kernel
theorem dX8_writeHouse_1 : decode cX8_writeHouse 1 = .ok (.iconst 0, 1) := by decide +kernel
theorem dX8_writeHouse_2 : decode cX8_writeHouse 2 = .ok (.putfield 15, 3) := by decide +kernel
theorem dX8_writeHouse_5 : decode cX8_writeHouse 5 = .ok (.aload_n 0, 1) := by decide +kernel
theorem dX8_writeHouse_6 : decode cX8_writeHouse 6 = .ok (.iload_n 2, 1) := by decide +kernel
theorem dX8_writeHouse_7 : decode cX8_writeHouse 7 = .ok (.invokevirtual 69, 3) := by decide +kernel
theorem dX8_writeHouse_10 : decode cX8_writeHouse 10 = .ok (.aload_n 0, 1) := by decide +kernel
theorem dX8_writeHouse_11 : decode cX8_writeHouse 11 = .ok (.bipush 64, 2) := by decide +kernel
theorem dX8_writeHouse_13 : decode cX8_writeHouse 13 = .ok (.invokevirtual 29, 3) := by decide +kernel
theorem dX8_writeHouse_16 : decode cX8_writeHouse 16 = .ok (.aload_n 0, 1) := by decide +kernel
theorem dX8_writeHouse_17 : decode cX8_writeHouse 17 = .ok (.aload_n 1, 1) := by decide +kernel
theorem dX8_writeHouse_18 : decode cX8_writeHouse 18 = .ok (.iload_n 2, 1) := by decide +kernel
theorem dX8_writeHouse_19 : decode cX8_writeHouse 19 = .ok (.invokevirtual 73, 3) := by decide +kernel
theorem dX8_writeHouse_22 : decode cX8_writeHouse 22 = .ok (.invokevirtual 69, 3) := by decide +kernel
theorem dX8_writeHouse_25 : decode cX8_writeHouse 25 = .ok (.aload_n 1, 1) := by decide +kernel
theorem dX8_writeHouse_26 : decode cX8_writeHouse 26 = .ok (.iload_n 2, 1) := by decide +kernel
theorem dX8_writeHouse_27 : decode cX8_writeHouse 27 = .ok (.invokevirtual 75, 3) := by decide +kernel
theorem dX8_writeHouse_30 : decode cX8_writeHouse 30 = .ok (.ifCond .le 33, 3) := by decide +kernel
theorem dX8_writeHouse_33 : decode cX8_writeHouse 33 = .ok (.aload_n 0, 1) := by decide +kernel
theorem dX8_writeHouse_34 : decode cX8_writeHouse 34 = .ok (.bipush 32, 2) := by decide +kernel
theorem dX8_writeHouse_36 : decode cX8_writeHouse 36 = .ok (.invokevirtual 29, 3) := by decide +kernel
theorem dX8_writeHouse_39 : decode cX8_writeHouse 39 = .ok (.aload_n 0, 1) := by decide +kernel
theorem dX8_writeHouse_40 : decode cX8_writeHouse 40 = .ok (.aload_n 1, 1) := by decide +kernel
theorem dX8_writeHouse_41 : decode cX8_writeHouse 41 = .ok (.iload_n 2, 1) := by decide +kernel
theorem dX8_writeHouse_42 : decode cX8_writeHouse 42 = .ok (.invokevirtual 78, 3) := by decide +kernel
theorem dX8_writeHouse_45 : decode cX8_writeHouse 45 = .ok (.invokevirtual 69, 3) := by decide +kernel
theorem dX8_writeHouse_48 : decode cX8_writeHouse 48 = .ok (.aload_n 0, 1) := by decide +kernel
theorem dX8_writeHouse_49 : decode cX8_writeHouse 49 = .ok (.bipush 45, 2) := by decide +kernel
theorem dX8_writeHouse_51 : decode cX8_writeHouse 51 = .ok (.invokevirtual 29, 3) := by decide +kernel
theorem dX8_writeHouse_54 : decode cX8_writeHouse 54 = .ok (.aload_n 0, 1) := by decide +kernel
theorem dX8_writeHouse_55 : decode cX8_writeHouse 55 = .ok (.aload_n 1, 1) := by decide +kernel
theorem dX8_writeHouse_56 : decode cX8_writeHouse 56 = .ok (.iload_n 2, 1) := by decide +kernel
theorem dX8_writeHouse_57 : decode cX8_writeHouse 57 = .ok (.invokevirtual 81, 3) := by decide +kernel
theorem dX8_writeHouse_60 : decode cX8_writeHouse 60 = .ok (.invokevirtual 69, 3) := by decide +kernel
theorem dX8_writeHouse_63 : decode cX8_writeHouse 63 = .ok (.aload_n 1, 1) := by decide +kernel
theorem dX8_writeHouse_64 : decode cX8_writeHouse 64 = .ok (.iload_n 2, 1) := by decide +kernel
theorem dX8_writeHouse_65 : decode cX8_writeHouse 65 = .ok (.iload_n 3, 1) := by decide +kernel
theorem dX8_writeHouse_66 : decode cX8_writeHouse 66 = .ok (.invokevirtual 84, 3) := by decide +kernel
theorem dX8_writeHouse_69 : decode cX8_writeHouse 69 = .ok (.ifCond .eq 9, 3) := by decide +kernel
theorem dX8_writeHouse_72 : decode cX8_writeHouse 72 = .ok (.aload_n 0, 1) := by decide +kernel
theorem dX8_writeHouse_73 : decode cX8_writeHouse 73 = .ok (.bipush 122, 2) := by decide +kernel
theorem dX8_writeHouse_75 : decode cX8_writeHouse 75 = .ok (.invokevirtual 29, 3) := by decide +kernel
theorem dX8_writeHouse_78 : decode cX8_writeHouse 78 = .ok (.iconst 0, 1) := by decide +kernel
theorem dX8_writeHouse_79 : decode cX8_writeHouse 79 = .ok (.istore 4, 2) := by decide +kernel
theorem dX8_writeHouse_81 : decode cX8_writeHouse 81 = .ok (.iload 4, 2) := by decide +kernel
theorem dX8_writeHouse_83 : decode cX8_writeHouse 83 = .ok (.bipush 9, 2) := by decide +kernel
theorem dX8_writeHouse_85 : decode cX8_writeHouse 85 = .ok (.if_icmp .ge 25, 3) := by decide +kernel
theorem dX8_writeHouse_88 : decode cX8_writeHouse 88 = .ok (.iload 4, 2) := by decide +kernel
theorem dX8_writeHouse_90 : decode cX8_writeHouse 90 = .ok (.aload_n 1, 1) := by decide +kernel
theorem dX8_writeHouse_91 : decode cX8_writeHouse 91 = .ok (.iload_n 2, 1) := by decide +kernel
theorem dX8_writeHouse_92 : decode cX8_writeHouse 92 = .ok (.invokevirtual 88, 3) := by decide +kernel
theorem dX8_writeHouse_95 : decode cX8_writeHouse 95 = .ok (.if_icmp .ge 15, 3) := by decide +kernel
theorem dX8_writeHouse_98 : decode cX8_writeHouse 98 = .ok (.aload_n 0, 1) := by decide +kernel
theorem dX8_writeHouse_99 : decode cX8_writeHouse 99 = .ok (.bipush 33, 2) := by decide +kernel
theorem dX8_writeHouse_101 : decode cX8_writeHouse 101 = .ok (.invokevirtual 29, 3) := by decide +kernel
theorem dX8_writeHouse_104 : decode cX8_writeHouse 104 = .ok (.iinc 4 1, 3) := by decide +kernel
theorem dX8_writeHouse_107 : decode cX8_writeHouse 107 = .ok (.goto (-26), 3) := by decide +kernel
theorem dX8_writeHouse_110 : decode cX8_writeHouse 110 = .ok (.aload_n 0, 1) := by decide +kernel
theorem dX8_writeHouse_111 : decode cX8_writeHouse 111 = .ok (.getfield 15, 3) := by decide +kernel
theorem dX8_writeHouse_114 : decode cX8_writeHouse 114 = .ok (.ireturn, 1) := by decide +kernel
theorem k_X8_writeHouse : cardV yX8_writeHouse (Cond.code yX8_writeHouse cX8_writeHouse 5 (some .int)) 3 := ⟨⟨qi_X8_writeHouse, qv_X8_writeHouse⟩, qc_X8_writeHouse, qn_X8, by decide +kernel, by decide +kernel, by decide +kernel⟩
set_option maxHeartbeats 4000000 in
set_option maxRecDepth 100000 in
theorem c_X8_writeHouse (l : Launch) (D : va_G) (g : Nat → ClassId) (q_this q_signs q_p1 q_p1_cells q_p1_froms q_p1_tos q_p1_rings q_p1_pranks : Nat) (p2 p3 : Int32) (f_size : Int32) (a_signs : Nat → Int32) (f_p1_size : Int32) (a_p1_cells : Nat → Int32) (a_p1_froms : Nat → Int32) (a_p1_tos : Nat → Int32) (a_p1_pranks : Nat → Int32) (o : Int32 × Int32 × (Nat → Int32)) (h : F_X8_writeHouse p2 p3 a_p1_cells a_p1_froms a_p1_tos a_p1_pranks f_size a_signs = some o) : MW l yX8_writeHouse (Cond.code yX8_writeHouse cX8_writeHouse 5 (some .int)) { frames := 3, cells := 0, slots := 0, locals := 63 } D g [.ref q_this, .ref q_p1, .int p2, .int p3] [(q_this, .inr (8, [.ref q_signs, .int f_size])), (q_signs, .inl (g 1, 20, .inl a_signs)), (q_p1, .inr (3, [.int f_p1_size, .ref q_p1_cells, .ref q_p1_froms, .ref q_p1_tos, .ref q_p1_rings, .ref q_p1_pranks])), (q_p1_cells, .inl (g 0, 10, .inl a_p1_cells)), (q_p1_froms, .inl (g 0, 10, .inl a_p1_froms)), (q_p1_tos, .inl (g 0, 10, .inl a_p1_tos)), (q_p1_pranks, .inl (g 0, 10, .inl a_p1_pranks))] (some (.int o.1)) [(q_this, .inr (8, [.ref q_signs, .int o.2.1])), (q_signs, .inl (g 1, 20, .inl o.2.2)), (q_p1, .inr (3, [.int f_p1_size, .ref q_p1_cells, .ref q_p1_froms, .ref q_p1_tos, .ref q_p1_rings, .ref q_p1_pranks])), (q_p1_cells, .inl (g 0, 10, .inl a_p1_cells)), (q_p1_froms, .inl (g 0, 10, .inl a_p1_froms)), (q_p1_tos, .inl (g 0, 10, .inl a_p1_tos)), (q_p1_pranks, .inl (g 0, 10, .inl a_p1_pranks))] := by
  refine z_wr_start (by decide) (Nat.le_of_ble_eq_true rfl) ?_
  intro p e s m args below meth c Q A X hr hQ hA
  refine z_lv (lv' := [(0, .ref q_this), (1, .ref q_p1), (2, .int p2), (3, .int p3)]) rfl ?_
  have H110 : ∀ (f_size : Int32) (a_signs : Nat → Int32), J_X8_writeHouse_110 p2 p3 a_p1_cells a_p1_froms a_p1_tos a_p1_pranks f_size a_signs = some o → Z p l e { frames := 3, cells := 0, slots := 0, locals := 63 } s m args below meth c Q 5 0 0 (IW D A s [(q_this, .inr (8, [.ref q_signs, .int f_size])), (q_signs, .inl (g 1, 20, .inl a_signs)), (q_p1, .inr (3, [.int f_p1_size, .ref q_p1_cells, .ref q_p1_froms, .ref q_p1_tos, .ref q_p1_rings, .ref q_p1_pranks])), (q_p1_cells, .inl (g 0, 10, .inl a_p1_cells)), (q_p1_froms, .inl (g 0, 10, .inl a_p1_froms)), (q_p1_tos, .inl (g 0, 10, .inl a_p1_tos)), (q_p1_pranks, .inl (g 0, 10, .inl a_p1_pranks))]) 110 [(0, .ref q_this)] [] := by
    intro f_size a_signs h
    refine z_aload_n X 0 dX8_writeHouse_110 rfl rfl ?_
    refine z_get (q0 := 0) (k := 1) (ci := 8) X IW_P iw_X8 rfl qf_X8_X8_size (by decide) dX8_writeHouse_111 rfl rfl ?_
    cases h
    exact z_iretW X hQ hA hr dX8_writeHouse_114
  have H81 : ∀ (n : Nat) (x4 : Int32) (f_size : Int32) (a_signs : Nat → Int32), L_X8_writeHouse_81 p2 p3 a_p1_cells a_p1_froms a_p1_tos a_p1_pranks  n x4 f_size a_signs = some o → Z p l e { frames := 3, cells := 0, slots := 0, locals := 63 } s m args below meth c Q 5 0 0 (IW D A s [(q_this, .inr (8, [.ref q_signs, .int f_size])), (q_signs, .inl (g 1, 20, .inl a_signs)), (q_p1, .inr (3, [.int f_p1_size, .ref q_p1_cells, .ref q_p1_froms, .ref q_p1_tos, .ref q_p1_rings, .ref q_p1_pranks])), (q_p1_cells, .inl (g 0, 10, .inl a_p1_cells)), (q_p1_froms, .inl (g 0, 10, .inl a_p1_froms)), (q_p1_tos, .inl (g 0, 10, .inl a_p1_tos)), (q_p1_pranks, .inl (g 0, 10, .inl a_p1_pranks))]) 81 [(0, .ref q_this), (1, .ref q_p1), (2, .int p2), (4, .int x4)] [] := by
    intro n
    induction n with
    | zero => intro x4 f_size a_signs h; cases h
    | succ n81 ih81 =>
      intro x4 f_size a_signs h
      refine z_iload X 3 dX8_writeHouse_81 rfl ?_
      refine z_bipush X (9 : Int32) dX8_writeHouse_83 (by decide) ?_
      refine z_icmp_ge X 110 dX8_writeHouse_85 (by decide) h (fun _ h => ?_) (fun _ h => ?_)
      · refine z_sub (lv' := [(0, .ref q_this)]) [0] rfl ?_
        exact H110 f_size a_signs h
      · refine z_iload X 3 dX8_writeHouse_88 rfl ?_
        refine z_aload_n X 1 dX8_writeHouse_90 rfl rfl ?_
        refine z_iload_n X 2 dX8_writeHouse_91 rfl rfl ?_
        obtain ⟨o13, e14, h⟩ := bnd_p h
        refine z_rdV (rest := [.int x4]) (q0 := 2) (ci := 3) X IW_P k_X2_pranksAt (c_X2_pranksAt l D g q_p1 q_p1_cells q_p1_froms q_p1_tos q_p1_rings q_p1_pranks p2 f_p1_size a_p1_pranks o13 e14) ql_X8_X2_pranksAt dX8_writeHouse_92 [2, 6] rfl rfl rfl rfl rfl rfl ⟨Nat.le_of_ble_eq_true rfl, Nat.le_of_ble_eq_true rfl, rfl, rfl, Nat.le_of_ble_eq_true rfl, Nat.le_of_ble_eq_true rfl⟩ (Nat.le_of_ble_eq_true rfl) ?_
        refine z_icmp_ge X 110 dX8_writeHouse_95 (by decide) h (fun _ h => ?_) (fun _ h => ?_)
        · refine z_sub (lv' := [(0, .ref q_this)]) [0] rfl ?_
          exact H110 f_size a_signs h
        · refine z_aload_n X 0 dX8_writeHouse_98 rfl rfl ?_
          refine z_bipush X (33 : Int32) dX8_writeHouse_99 (by decide) ?_
          obtain ⟨o15, e16, h⟩ := bnd_p h
          refine z_wrV (rest := []) (q0 := 0) (ci := 8) (ws' := [(q_this, .inr (8, [.ref q_signs, .int o15.1])), (q_signs, .inl (g 1, 20, .inl o15.2)), (q_p1, .inr (3, [.int f_p1_size, .ref q_p1_cells, .ref q_p1_froms, .ref q_p1_tos, .ref q_p1_rings, .ref q_p1_pranks])), (q_p1_cells, .inl (g 0, 10, .inl a_p1_cells)), (q_p1_froms, .inl (g 0, 10, .inl a_p1_froms)), (q_p1_tos, .inl (g 0, 10, .inl a_p1_tos)), (q_p1_pranks, .inl (g 0, 10, .inl a_p1_pranks))]) (wr := [(q_p1, .inr (3, [.int f_p1_size, .ref q_p1_cells, .ref q_p1_froms, .ref q_p1_tos, .ref q_p1_rings, .ref q_p1_pranks])), (q_p1_cells, .inl (g 0, 10, .inl a_p1_cells)), (q_p1_froms, .inl (g 0, 10, .inl a_p1_froms)), (q_p1_tos, .inl (g 0, 10, .inl a_p1_tos)), (q_p1_pranks, .inl (g 0, 10, .inl a_p1_pranks))]) (as := [q_this, q_signs, q_p1, q_p1_cells, q_p1_froms, q_p1_tos, q_p1_pranks]) X k_X8_putSign (c_X8_putSign l D g q_this q_signs (33 : Int32) f_size a_signs o15 e16) ql_X8_X8_putSign dX8_writeHouse_101 [0, 1] [2, 3, 4, 5, 6] ⟨rfl, rfl, rfl, rfl, rfl, rfl, rfl, rfl⟩ rfl rfl rfl rfl rfl ⟨Nat.le_of_ble_eq_true rfl, Nat.le_of_ble_eq_true rfl, rfl, rfl, Nat.le_of_ble_eq_true rfl, Nat.le_of_ble_eq_true rfl⟩ (Nat.le_of_ble_eq_true rfl) ?_
          refine z_iinc X 3 [(4, .int (x4 + 1)), (0, .ref q_this), (1, .ref q_p1), (2, .int p2)] dX8_writeHouse_104 rfl rfl (by decide) rfl ?_
          refine z_goto X 81 dX8_writeHouse_107 (by decide) ?_
          refine z_sub (lv' := [(0, .ref q_this), (1, .ref q_p1), (2, .int p2), (4, .int (x4 + 1))]) [1, 2, 3, 0] rfl ?_
          exact ih81 (x4 + 1) o15.1 o15.2 h
  have H78 : ∀ (f_size : Int32) (a_signs : Nat → Int32), J_X8_writeHouse_78 p2 p3 a_p1_cells a_p1_froms a_p1_tos a_p1_pranks f_size a_signs = some o → Z p l e { frames := 3, cells := 0, slots := 0, locals := 63 } s m args below meth c Q 5 0 0 (IW D A s [(q_this, .inr (8, [.ref q_signs, .int f_size])), (q_signs, .inl (g 1, 20, .inl a_signs)), (q_p1, .inr (3, [.int f_p1_size, .ref q_p1_cells, .ref q_p1_froms, .ref q_p1_tos, .ref q_p1_rings, .ref q_p1_pranks])), (q_p1_cells, .inl (g 0, 10, .inl a_p1_cells)), (q_p1_froms, .inl (g 0, 10, .inl a_p1_froms)), (q_p1_tos, .inl (g 0, 10, .inl a_p1_tos)), (q_p1_pranks, .inl (g 0, 10, .inl a_p1_pranks))]) 78 [(0, .ref q_this), (1, .ref q_p1), (2, .int p2)] [] := by
    intro f_size a_signs h
    refine z_iconst X (0 : Int32) dX8_writeHouse_78 (by decide) ?_
    refine z_istore X [(4, .int (0 : Int32)), (0, .ref q_this), (1, .ref q_p1), (2, .int p2)] dX8_writeHouse_79 (by decide) rfl ?_
    refine z_sub (lv' := [(0, .ref q_this), (1, .ref q_p1), (2, .int p2), (4, .int (0 : Int32))]) [1, 2, 3, 0] rfl ?_
    exact H81 100 (0 : Int32) f_size a_signs h
  have H63 : ∀ (f_size : Int32) (a_signs : Nat → Int32), J_X8_writeHouse_63 p2 p3 a_p1_cells a_p1_froms a_p1_tos a_p1_pranks f_size a_signs = some o → Z p l e { frames := 3, cells := 0, slots := 0, locals := 63 } s m args below meth c Q 5 0 0 (IW D A s [(q_this, .inr (8, [.ref q_signs, .int f_size])), (q_signs, .inl (g 1, 20, .inl a_signs)), (q_p1, .inr (3, [.int f_p1_size, .ref q_p1_cells, .ref q_p1_froms, .ref q_p1_tos, .ref q_p1_rings, .ref q_p1_pranks])), (q_p1_cells, .inl (g 0, 10, .inl a_p1_cells)), (q_p1_froms, .inl (g 0, 10, .inl a_p1_froms)), (q_p1_tos, .inl (g 0, 10, .inl a_p1_tos)), (q_p1_pranks, .inl (g 0, 10, .inl a_p1_pranks))]) 63 [(0, .ref q_this), (1, .ref q_p1), (2, .int p2), (3, .int p3)] [] := by
    intro f_size a_signs h
    refine z_aload_n X 1 dX8_writeHouse_63 rfl rfl ?_
    refine z_iload_n X 2 dX8_writeHouse_64 rfl rfl ?_
    refine z_iload_n X 3 dX8_writeHouse_65 rfl rfl ?_
    obtain ⟨o11, e12, h⟩ := bnd_p h
    refine z_rdV (rest := []) (q0 := 2) (ci := 3) X IW_P k_X2_isAsleep (c_X2_isAsleep l D g q_p1 q_p1_cells q_p1_froms q_p1_tos q_p1_rings q_p1_pranks p2 p3 f_p1_size a_p1_froms a_p1_tos o11 e12) ql_X8_X2_isAsleep dX8_writeHouse_66 [2, 4, 5] rfl rfl rfl rfl rfl rfl ⟨Nat.le_of_ble_eq_true rfl, Nat.le_of_ble_eq_true rfl, rfl, rfl, Nat.le_of_ble_eq_true rfl, Nat.le_of_ble_eq_true rfl⟩ (Nat.le_of_ble_eq_true rfl) ?_
    refine z_if_eq X 78 dX8_writeHouse_69 (by decide) h (fun _ h => ?_) (fun _ h => ?_)
    · refine z_sub (lv' := [(0, .ref q_this), (1, .ref q_p1), (2, .int p2)]) [0, 1, 2] rfl ?_
      exact H78 f_size a_signs h
    · refine z_aload_n X 0 dX8_writeHouse_72 rfl rfl ?_
      refine z_bipush X (122 : Int32) dX8_writeHouse_73 (by decide) ?_
      obtain ⟨o17, e18, h⟩ := bnd_p h
      refine z_wrV (rest := []) (q0 := 0) (ci := 8) (ws' := [(q_this, .inr (8, [.ref q_signs, .int o17.1])), (q_signs, .inl (g 1, 20, .inl o17.2)), (q_p1, .inr (3, [.int f_p1_size, .ref q_p1_cells, .ref q_p1_froms, .ref q_p1_tos, .ref q_p1_rings, .ref q_p1_pranks])), (q_p1_cells, .inl (g 0, 10, .inl a_p1_cells)), (q_p1_froms, .inl (g 0, 10, .inl a_p1_froms)), (q_p1_tos, .inl (g 0, 10, .inl a_p1_tos)), (q_p1_pranks, .inl (g 0, 10, .inl a_p1_pranks))]) (wr := [(q_p1, .inr (3, [.int f_p1_size, .ref q_p1_cells, .ref q_p1_froms, .ref q_p1_tos, .ref q_p1_rings, .ref q_p1_pranks])), (q_p1_cells, .inl (g 0, 10, .inl a_p1_cells)), (q_p1_froms, .inl (g 0, 10, .inl a_p1_froms)), (q_p1_tos, .inl (g 0, 10, .inl a_p1_tos)), (q_p1_pranks, .inl (g 0, 10, .inl a_p1_pranks))]) (as := [q_this, q_signs, q_p1, q_p1_cells, q_p1_froms, q_p1_tos, q_p1_pranks]) X k_X8_putSign (c_X8_putSign l D g q_this q_signs (122 : Int32) f_size a_signs o17 e18) ql_X8_X8_putSign dX8_writeHouse_75 [0, 1] [2, 3, 4, 5, 6] ⟨rfl, rfl, rfl, rfl, rfl, rfl, rfl, rfl⟩ rfl rfl rfl rfl rfl ⟨Nat.le_of_ble_eq_true rfl, Nat.le_of_ble_eq_true rfl, rfl, rfl, Nat.le_of_ble_eq_true rfl, Nat.le_of_ble_eq_true rfl⟩ (Nat.le_of_ble_eq_true rfl) ?_
      refine z_sub (lv' := [(0, .ref q_this), (1, .ref q_p1), (2, .int p2)]) [0, 1, 2] rfl ?_
      exact H78 o17.1 o17.2 h
  refine z_aload_n X 0 dX8_writeHouse_0 rfl rfl ?_
  refine z_iconst X (0 : Int32) dX8_writeHouse_1 (by decide) ?_
  refine z_put (q0 := 0) (k := 1) (ci := 8) (ws' := [(q_this, .inr (8, [.ref q_signs, .int (0 : Int32)])), (q_signs, .inl (g 1, 20, .inl a_signs)), (q_p1, .inr (3, [.int f_p1_size, .ref q_p1_cells, .ref q_p1_froms, .ref q_p1_tos, .ref q_p1_rings, .ref q_p1_pranks])), (q_p1_cells, .inl (g 0, 10, .inl a_p1_cells)), (q_p1_froms, .inl (g 0, 10, .inl a_p1_froms)), (q_p1_tos, .inl (g 0, 10, .inl a_p1_tos)), (q_p1_pranks, .inl (g 0, 10, .inl a_p1_pranks))]) X iw_X8 tyX8_ok nmX8 rfl qf_X8_X8_size (by decide) rfl rfl dX8_writeHouse_2 rfl rfl rfl (Nat.le_of_ble_eq_true rfl) rfl ?_
  refine z_aload_n X 0 dX8_writeHouse_5 rfl rfl ?_
  refine z_iload_n X 2 dX8_writeHouse_6 rfl rfl ?_
  obtain ⟨o1, e2, h⟩ := bnd_p h
  refine z_wrV (rest := []) (q0 := 0) (ci := 8) (ws' := [(q_this, .inr (8, [.ref q_signs, .int o1.1])), (q_signs, .inl (g 1, 20, .inl o1.2)), (q_p1, .inr (3, [.int f_p1_size, .ref q_p1_cells, .ref q_p1_froms, .ref q_p1_tos, .ref q_p1_rings, .ref q_p1_pranks])), (q_p1_cells, .inl (g 0, 10, .inl a_p1_cells)), (q_p1_froms, .inl (g 0, 10, .inl a_p1_froms)), (q_p1_tos, .inl (g 0, 10, .inl a_p1_tos)), (q_p1_pranks, .inl (g 0, 10, .inl a_p1_pranks))]) (wr := [(q_p1, .inr (3, [.int f_p1_size, .ref q_p1_cells, .ref q_p1_froms, .ref q_p1_tos, .ref q_p1_rings, .ref q_p1_pranks])), (q_p1_cells, .inl (g 0, 10, .inl a_p1_cells)), (q_p1_froms, .inl (g 0, 10, .inl a_p1_froms)), (q_p1_tos, .inl (g 0, 10, .inl a_p1_tos)), (q_p1_pranks, .inl (g 0, 10, .inl a_p1_pranks))]) (as := [q_this, q_signs, q_p1, q_p1_cells, q_p1_froms, q_p1_tos, q_p1_pranks]) X k_X8_putNumber (c_X8_putNumber l D g q_this q_signs p2 (0 : Int32) a_signs o1 e2) ql_X8_X8_putNumber dX8_writeHouse_7 [0, 1] [2, 3, 4, 5, 6] ⟨rfl, rfl, rfl, rfl, rfl, rfl, rfl, rfl⟩ rfl rfl rfl rfl rfl ⟨Nat.le_of_ble_eq_true rfl, Nat.le_of_ble_eq_true rfl, rfl, rfl, Nat.le_of_ble_eq_true rfl, Nat.le_of_ble_eq_true rfl⟩ (Nat.le_of_ble_eq_true rfl) ?_
  refine z_aload_n X 0 dX8_writeHouse_10 rfl rfl ?_
  refine z_bipush X (64 : Int32) dX8_writeHouse_11 (by decide) ?_
  obtain ⟨o3, e4, h⟩ := bnd_p h
  refine z_wrV (rest := []) (q0 := 0) (ci := 8) (ws' := [(q_this, .inr (8, [.ref q_signs, .int o3.1])), (q_signs, .inl (g 1, 20, .inl o3.2)), (q_p1, .inr (3, [.int f_p1_size, .ref q_p1_cells, .ref q_p1_froms, .ref q_p1_tos, .ref q_p1_rings, .ref q_p1_pranks])), (q_p1_cells, .inl (g 0, 10, .inl a_p1_cells)), (q_p1_froms, .inl (g 0, 10, .inl a_p1_froms)), (q_p1_tos, .inl (g 0, 10, .inl a_p1_tos)), (q_p1_pranks, .inl (g 0, 10, .inl a_p1_pranks))]) (wr := [(q_p1, .inr (3, [.int f_p1_size, .ref q_p1_cells, .ref q_p1_froms, .ref q_p1_tos, .ref q_p1_rings, .ref q_p1_pranks])), (q_p1_cells, .inl (g 0, 10, .inl a_p1_cells)), (q_p1_froms, .inl (g 0, 10, .inl a_p1_froms)), (q_p1_tos, .inl (g 0, 10, .inl a_p1_tos)), (q_p1_pranks, .inl (g 0, 10, .inl a_p1_pranks))]) (as := [q_this, q_signs, q_p1, q_p1_cells, q_p1_froms, q_p1_tos, q_p1_pranks]) X k_X8_putSign (c_X8_putSign l D g q_this q_signs (64 : Int32) o1.1 o1.2 o3 e4) ql_X8_X8_putSign dX8_writeHouse_13 [0, 1] [2, 3, 4, 5, 6] ⟨rfl, rfl, rfl, rfl, rfl, rfl, rfl, rfl⟩ rfl rfl rfl rfl rfl ⟨Nat.le_of_ble_eq_true rfl, Nat.le_of_ble_eq_true rfl, rfl, rfl, Nat.le_of_ble_eq_true rfl, Nat.le_of_ble_eq_true rfl⟩ (Nat.le_of_ble_eq_true rfl) ?_
  refine z_aload_n X 0 dX8_writeHouse_16 rfl rfl ?_
  refine z_aload_n X 1 dX8_writeHouse_17 rfl rfl ?_
  refine z_iload_n X 2 dX8_writeHouse_18 rfl rfl ?_
  obtain ⟨o5, e6, h⟩ := bnd_p h
  refine z_rdV (rest := [.ref q_this]) (q0 := 2) (ci := 3) X IW_P k_X2_cellAt (c_X2_cellAt l D g q_p1 q_p1_cells q_p1_froms q_p1_tos q_p1_rings q_p1_pranks p2 f_p1_size a_p1_cells o5 e6) ql_X8_X2_cellAt dX8_writeHouse_19 [2, 3] rfl rfl rfl rfl rfl rfl ⟨Nat.le_of_ble_eq_true rfl, Nat.le_of_ble_eq_true rfl, rfl, rfl, Nat.le_of_ble_eq_true rfl, Nat.le_of_ble_eq_true rfl⟩ (Nat.le_of_ble_eq_true rfl) ?_
  obtain ⟨o7, e8, h⟩ := bnd_p h
  refine z_wrV (rest := []) (q0 := 0) (ci := 8) (ws' := [(q_this, .inr (8, [.ref q_signs, .int o7.1])), (q_signs, .inl (g 1, 20, .inl o7.2)), (q_p1, .inr (3, [.int f_p1_size, .ref q_p1_cells, .ref q_p1_froms, .ref q_p1_tos, .ref q_p1_rings, .ref q_p1_pranks])), (q_p1_cells, .inl (g 0, 10, .inl a_p1_cells)), (q_p1_froms, .inl (g 0, 10, .inl a_p1_froms)), (q_p1_tos, .inl (g 0, 10, .inl a_p1_tos)), (q_p1_pranks, .inl (g 0, 10, .inl a_p1_pranks))]) (wr := [(q_p1, .inr (3, [.int f_p1_size, .ref q_p1_cells, .ref q_p1_froms, .ref q_p1_tos, .ref q_p1_rings, .ref q_p1_pranks])), (q_p1_cells, .inl (g 0, 10, .inl a_p1_cells)), (q_p1_froms, .inl (g 0, 10, .inl a_p1_froms)), (q_p1_tos, .inl (g 0, 10, .inl a_p1_tos)), (q_p1_pranks, .inl (g 0, 10, .inl a_p1_pranks))]) (as := [q_this, q_signs, q_p1, q_p1_cells, q_p1_froms, q_p1_tos, q_p1_pranks]) X k_X8_putNumber (c_X8_putNumber l D g q_this q_signs o5 o3.1 o3.2 o7 e8) ql_X8_X8_putNumber dX8_writeHouse_22 [0, 1] [2, 3, 4, 5, 6] ⟨rfl, rfl, rfl, rfl, rfl, rfl, rfl, rfl⟩ rfl rfl rfl rfl rfl ⟨Nat.le_of_ble_eq_true rfl, Nat.le_of_ble_eq_true rfl, rfl, rfl, Nat.le_of_ble_eq_true rfl, Nat.le_of_ble_eq_true rfl⟩ (Nat.le_of_ble_eq_true rfl) ?_
  refine z_aload_n X 1 dX8_writeHouse_25 rfl rfl ?_
  refine z_iload_n X 2 dX8_writeHouse_26 rfl rfl ?_
  obtain ⟨o9, e10, h⟩ := bnd_p h
  refine z_rdV (rest := []) (q0 := 2) (ci := 3) X IW_P k_X2_sleepAt (c_X2_sleepAt l D g q_p1 q_p1_cells q_p1_froms q_p1_tos q_p1_rings q_p1_pranks p2 f_p1_size a_p1_froms a_p1_tos o9 e10) ql_X8_X2_sleepAt dX8_writeHouse_27 [2, 4, 5] rfl rfl rfl rfl rfl rfl ⟨Nat.le_of_ble_eq_true rfl, Nat.le_of_ble_eq_true rfl, rfl, rfl, Nat.le_of_ble_eq_true rfl, Nat.le_of_ble_eq_true rfl⟩ (Nat.le_of_ble_eq_true rfl) ?_
  refine z_if_le X 63 dX8_writeHouse_30 (by decide) h (fun _ h => ?_) (fun _ h => ?_)
  · exact H63 o7.1 o7.2 h
  · refine z_aload_n X 0 dX8_writeHouse_33 rfl rfl ?_
    refine z_bipush X (32 : Int32) dX8_writeHouse_34 (by decide) ?_
    obtain ⟨o19, e20, h⟩ := bnd_p h
    refine z_wrV (rest := []) (q0 := 0) (ci := 8) (ws' := [(q_this, .inr (8, [.ref q_signs, .int o19.1])), (q_signs, .inl (g 1, 20, .inl o19.2)), (q_p1, .inr (3, [.int f_p1_size, .ref q_p1_cells, .ref q_p1_froms, .ref q_p1_tos, .ref q_p1_rings, .ref q_p1_pranks])), (q_p1_cells, .inl (g 0, 10, .inl a_p1_cells)), (q_p1_froms, .inl (g 0, 10, .inl a_p1_froms)), (q_p1_tos, .inl (g 0, 10, .inl a_p1_tos)), (q_p1_pranks, .inl (g 0, 10, .inl a_p1_pranks))]) (wr := [(q_p1, .inr (3, [.int f_p1_size, .ref q_p1_cells, .ref q_p1_froms, .ref q_p1_tos, .ref q_p1_rings, .ref q_p1_pranks])), (q_p1_cells, .inl (g 0, 10, .inl a_p1_cells)), (q_p1_froms, .inl (g 0, 10, .inl a_p1_froms)), (q_p1_tos, .inl (g 0, 10, .inl a_p1_tos)), (q_p1_pranks, .inl (g 0, 10, .inl a_p1_pranks))]) (as := [q_this, q_signs, q_p1, q_p1_cells, q_p1_froms, q_p1_tos, q_p1_pranks]) X k_X8_putSign (c_X8_putSign l D g q_this q_signs (32 : Int32) o7.1 o7.2 o19 e20) ql_X8_X8_putSign dX8_writeHouse_36 [0, 1] [2, 3, 4, 5, 6] ⟨rfl, rfl, rfl, rfl, rfl, rfl, rfl, rfl⟩ rfl rfl rfl rfl rfl ⟨Nat.le_of_ble_eq_true rfl, Nat.le_of_ble_eq_true rfl, rfl, rfl, Nat.le_of_ble_eq_true rfl, Nat.le_of_ble_eq_true rfl⟩ (Nat.le_of_ble_eq_true rfl) ?_
    refine z_aload_n X 0 dX8_writeHouse_39 rfl rfl ?_
    refine z_aload_n X 1 dX8_writeHouse_40 rfl rfl ?_
    refine z_iload_n X 2 dX8_writeHouse_41 rfl rfl ?_
    obtain ⟨o21, e22, h⟩ := bnd_p h
    refine z_rdV (rest := [.ref q_this]) (q0 := 2) (ci := 3) X IW_P k_X2_fromAt (c_X2_fromAt l D g q_p1 q_p1_cells q_p1_froms q_p1_tos q_p1_rings q_p1_pranks p2 f_p1_size a_p1_froms o21 e22) ql_X8_X2_fromAt dX8_writeHouse_42 [2, 4] rfl rfl rfl rfl rfl rfl ⟨Nat.le_of_ble_eq_true rfl, Nat.le_of_ble_eq_true rfl, rfl, rfl, Nat.le_of_ble_eq_true rfl, Nat.le_of_ble_eq_true rfl⟩ (Nat.le_of_ble_eq_true rfl) ?_
    obtain ⟨o23, e24, h⟩ := bnd_p h
    refine z_wrV (rest := []) (q0 := 0) (ci := 8) (ws' := [(q_this, .inr (8, [.ref q_signs, .int o23.1])), (q_signs, .inl (g 1, 20, .inl o23.2)), (q_p1, .inr (3, [.int f_p1_size, .ref q_p1_cells, .ref q_p1_froms, .ref q_p1_tos, .ref q_p1_rings, .ref q_p1_pranks])), (q_p1_cells, .inl (g 0, 10, .inl a_p1_cells)), (q_p1_froms, .inl (g 0, 10, .inl a_p1_froms)), (q_p1_tos, .inl (g 0, 10, .inl a_p1_tos)), (q_p1_pranks, .inl (g 0, 10, .inl a_p1_pranks))]) (wr := [(q_p1, .inr (3, [.int f_p1_size, .ref q_p1_cells, .ref q_p1_froms, .ref q_p1_tos, .ref q_p1_rings, .ref q_p1_pranks])), (q_p1_cells, .inl (g 0, 10, .inl a_p1_cells)), (q_p1_froms, .inl (g 0, 10, .inl a_p1_froms)), (q_p1_tos, .inl (g 0, 10, .inl a_p1_tos)), (q_p1_pranks, .inl (g 0, 10, .inl a_p1_pranks))]) (as := [q_this, q_signs, q_p1, q_p1_cells, q_p1_froms, q_p1_tos, q_p1_pranks]) X k_X8_putNumber (c_X8_putNumber l D g q_this q_signs o21 o19.1 o19.2 o23 e24) ql_X8_X8_putNumber dX8_writeHouse_45 [0, 1] [2, 3, 4, 5, 6] ⟨rfl, rfl, rfl, rfl, rfl, rfl, rfl, rfl⟩ rfl rfl rfl rfl rfl ⟨Nat.le_of_ble_eq_true rfl, Nat.le_of_ble_eq_true rfl, rfl, rfl, Nat.le_of_ble_eq_true rfl, Nat.le_of_ble_eq_true rfl⟩ (Nat.le_of_ble_eq_true rfl) ?_
    refine z_aload_n X 0 dX8_writeHouse_48 rfl rfl ?_
    refine z_bipush X (45 : Int32) dX8_writeHouse_49 (by decide) ?_
    obtain ⟨o25, e26, h⟩ := bnd_p h
    refine z_wrV (rest := []) (q0 := 0) (ci := 8) (ws' := [(q_this, .inr (8, [.ref q_signs, .int o25.1])), (q_signs, .inl (g 1, 20, .inl o25.2)), (q_p1, .inr (3, [.int f_p1_size, .ref q_p1_cells, .ref q_p1_froms, .ref q_p1_tos, .ref q_p1_rings, .ref q_p1_pranks])), (q_p1_cells, .inl (g 0, 10, .inl a_p1_cells)), (q_p1_froms, .inl (g 0, 10, .inl a_p1_froms)), (q_p1_tos, .inl (g 0, 10, .inl a_p1_tos)), (q_p1_pranks, .inl (g 0, 10, .inl a_p1_pranks))]) (wr := [(q_p1, .inr (3, [.int f_p1_size, .ref q_p1_cells, .ref q_p1_froms, .ref q_p1_tos, .ref q_p1_rings, .ref q_p1_pranks])), (q_p1_cells, .inl (g 0, 10, .inl a_p1_cells)), (q_p1_froms, .inl (g 0, 10, .inl a_p1_froms)), (q_p1_tos, .inl (g 0, 10, .inl a_p1_tos)), (q_p1_pranks, .inl (g 0, 10, .inl a_p1_pranks))]) (as := [q_this, q_signs, q_p1, q_p1_cells, q_p1_froms, q_p1_tos, q_p1_pranks]) X k_X8_putSign (c_X8_putSign l D g q_this q_signs (45 : Int32) o23.1 o23.2 o25 e26) ql_X8_X8_putSign dX8_writeHouse_51 [0, 1] [2, 3, 4, 5, 6] ⟨rfl, rfl, rfl, rfl, rfl, rfl, rfl, rfl⟩ rfl rfl rfl rfl rfl ⟨Nat.le_of_ble_eq_true rfl, Nat.le_of_ble_eq_true rfl, rfl, rfl, Nat.le_of_ble_eq_true rfl, Nat.le_of_ble_eq_true rfl⟩ (Nat.le_of_ble_eq_true rfl) ?_
    refine z_aload_n X 0 dX8_writeHouse_54 rfl rfl ?_
    refine z_aload_n X 1 dX8_writeHouse_55 rfl rfl ?_
    refine z_iload_n X 2 dX8_writeHouse_56 rfl rfl ?_
    obtain ⟨o27, e28, h⟩ := bnd_p h
    refine z_rdV (rest := [.ref q_this]) (q0 := 2) (ci := 3) X IW_P k_X2_toAt (c_X2_toAt l D g q_p1 q_p1_cells q_p1_froms q_p1_tos q_p1_rings q_p1_pranks p2 f_p1_size a_p1_tos o27 e28) ql_X8_X2_toAt dX8_writeHouse_57 [2, 5] rfl rfl rfl rfl rfl rfl ⟨Nat.le_of_ble_eq_true rfl, Nat.le_of_ble_eq_true rfl, rfl, rfl, Nat.le_of_ble_eq_true rfl, Nat.le_of_ble_eq_true rfl⟩ (Nat.le_of_ble_eq_true rfl) ?_
    obtain ⟨o29, e30, h⟩ := bnd_p h
    refine z_wrV (rest := []) (q0 := 0) (ci := 8) (ws' := [(q_this, .inr (8, [.ref q_signs, .int o29.1])), (q_signs, .inl (g 1, 20, .inl o29.2)), (q_p1, .inr (3, [.int f_p1_size, .ref q_p1_cells, .ref q_p1_froms, .ref q_p1_tos, .ref q_p1_rings, .ref q_p1_pranks])), (q_p1_cells, .inl (g 0, 10, .inl a_p1_cells)), (q_p1_froms, .inl (g 0, 10, .inl a_p1_froms)), (q_p1_tos, .inl (g 0, 10, .inl a_p1_tos)), (q_p1_pranks, .inl (g 0, 10, .inl a_p1_pranks))]) (wr := [(q_p1, .inr (3, [.int f_p1_size, .ref q_p1_cells, .ref q_p1_froms, .ref q_p1_tos, .ref q_p1_rings, .ref q_p1_pranks])), (q_p1_cells, .inl (g 0, 10, .inl a_p1_cells)), (q_p1_froms, .inl (g 0, 10, .inl a_p1_froms)), (q_p1_tos, .inl (g 0, 10, .inl a_p1_tos)), (q_p1_pranks, .inl (g 0, 10, .inl a_p1_pranks))]) (as := [q_this, q_signs, q_p1, q_p1_cells, q_p1_froms, q_p1_tos, q_p1_pranks]) X k_X8_putNumber (c_X8_putNumber l D g q_this q_signs o27 o25.1 o25.2 o29 e30) ql_X8_X8_putNumber dX8_writeHouse_60 [0, 1] [2, 3, 4, 5, 6] ⟨rfl, rfl, rfl, rfl, rfl, rfl, rfl, rfl⟩ rfl rfl rfl rfl rfl ⟨Nat.le_of_ble_eq_true rfl, Nat.le_of_ble_eq_true rfl, rfl, rfl, Nat.le_of_ble_eq_true rfl, Nat.le_of_ble_eq_true rfl⟩ (Nat.le_of_ble_eq_true rfl) ?_
    exact H63 o29.1 o29.2 h

def F_X8_has (p1 : Int32) (f_size : Int32) : Option (Int32) :=
  brn (p1 < 0) (some ((0 : Int32))) (brn (f_size ≤ p1) (some ((0 : Int32))) (some ((1 : Int32))))
theorem dX8_has_0 : decode cX8_has 0 = .ok (.iload_n 1, 1) := by decide +kernel
theorem dX8_has_1 : decode cX8_has 1 = .ok (.ifCond .lt 15, 3) := by decide +kernel
theorem dX8_has_4 : decode cX8_has 4 = .ok (.iload_n 1, 1) := by decide +kernel
theorem dX8_has_5 : decode cX8_has 5 = .ok (.aload_n 0, 1) := by decide +kernel
theorem dX8_has_6 : decode cX8_has 6 = .ok (.getfield 15, 3) := by decide +kernel
theorem dX8_has_9 : decode cX8_has 9 = .ok (.if_icmp .ge 7, 3) := by decide +kernel
theorem dX8_has_12 : decode cX8_has 12 = .ok (.iconst 1, 1) := by decide +kernel
theorem dX8_has_13 : decode cX8_has 13 = .ok (.goto 4, 3) := by decide +kernel
theorem dX8_has_16 : decode cX8_has 16 = .ok (.iconst 0, 1) := by decide +kernel
theorem dX8_has_17 : decode cX8_has 17 = .ok (.ireturn, 1) := by decide +kernel
theorem k_X8_has : cardV yX8_has (Cond.code yX8_has cX8_has 2 (some .boolean)) 1 := ⟨⟨qi_X8_has, qv_X8_has⟩, qc_X8_has, qn_X8, by decide +kernel, by decide +kernel, by decide +kernel⟩
set_option maxHeartbeats 4000000 in
set_option maxRecDepth 100000 in
theorem c_X8_has (l : Launch) (D : va_G) (g : Nat → ClassId) (q_this q_signs : Nat) (p1 : Int32) (f_size : Int32) (o : Int32) (h : F_X8_has p1 f_size = some o) : MR l yX8_has (Cond.code yX8_has cX8_has 2 (some .boolean)) { frames := 0, cells := 0, slots := 0, locals := 0 } D g [.ref q_this, .int p1] [(q_this, .inr (8, [.ref q_signs, .int f_size]))] (some (.int o)) := by
  refine z_rd_start (by decide) (Nat.le_of_ble_eq_true rfl) ?_
  intro p e s m args below meth c Q X hr hQ
  refine z_lv (lv' := [(0, .ref q_this), (1, .int p1)]) rfl ?_
  refine z_iload_n X 1 dX8_has_0 rfl rfl ?_
  refine z_if_lt X 16 dX8_has_1 (by decide) h (fun _ h => ?_) (fun _ h => ?_)
  · refine z_iconst X (0 : Int32) dX8_has_16 (by decide) ?_
    exact z_zretR X hQ hr dX8_has_17 rfl h
  · refine z_iload_n X 1 dX8_has_4 rfl rfl ?_
    refine z_aload_n X 0 dX8_has_5 rfl rfl ?_
    refine z_get (q0 := 0) (k := 1) (ci := 8) X IR_P iw_X8 rfl qf_X8_X8_size (by decide) dX8_has_6 rfl rfl ?_
    refine z_icmp_ge X 16 dX8_has_9 (by decide) h (fun _ h => ?_) (fun _ h => ?_)
    · refine z_iconst X (0 : Int32) dX8_has_16 (by decide) ?_
      exact z_zretR X hQ hr dX8_has_17 rfl h
    · refine z_iconst X (1 : Int32) dX8_has_12 (by decide) ?_
      refine z_goto X 17 dX8_has_13 (by decide) ?_
      exact z_zretR X hQ hr dX8_has_17 rfl h

def F_X8_signAt (p1 : Int32) (a_signs : Nat → Int32) : Option (Int32) :=
  brn (p1 < 0) (grd (vp_nar .char (32 : Int32) = (32 : Int32)) (some ((32 : Int32)))) (brn ((20 : Int32) ≤ p1) (grd (vp_nar .char (32 : Int32) = (32 : Int32)) (some ((32 : Int32)))) (grd (inb p1 20) (grd (vp_nar .char (a_signs p1.toNatClampNeg) = (a_signs p1.toNatClampNeg)) (some (a_signs p1.toNatClampNeg)))))
theorem dX8_signAt_0 : decode cX8_signAt 0 = .ok (.iload_n 1, 1) := by decide +kernel
theorem dX8_signAt_1 : decode cX8_signAt 1 = .ok (.ifCond .lt 21, 3) := by decide +kernel
theorem dX8_signAt_4 : decode cX8_signAt 4 = .ok (.iload_n 1, 1) := by decide +kernel
theorem dX8_signAt_5 : decode cX8_signAt 5 = .ok (.aload_n 0, 1) := by decide +kernel
theorem dX8_signAt_6 : decode cX8_signAt 6 = .ok (.getfield 9, 3) := by decide +kernel
theorem dX8_signAt_9 : decode cX8_signAt 9 = .ok (.arraylength, 1) := by decide +kernel
theorem dX8_signAt_10 : decode cX8_signAt 10 = .ok (.if_icmp .ge 12, 3) := by decide +kernel
theorem dX8_signAt_13 : decode cX8_signAt 13 = .ok (.aload_n 0, 1) := by decide +kernel
theorem dX8_signAt_14 : decode cX8_signAt 14 = .ok (.getfield 9, 3) := by decide +kernel
theorem dX8_signAt_17 : decode cX8_signAt 17 = .ok (.iload_n 1, 1) := by decide +kernel
theorem dX8_signAt_18 : decode cX8_signAt 18 = .ok (.caload, 1) := by decide +kernel
theorem dX8_signAt_19 : decode cX8_signAt 19 = .ok (.goto 5, 3) := by decide +kernel
theorem dX8_signAt_22 : decode cX8_signAt 22 = .ok (.bipush 32, 2) := by decide +kernel
theorem dX8_signAt_24 : decode cX8_signAt 24 = .ok (.ireturn, 1) := by decide +kernel
theorem k_X8_signAt : cardV yX8_signAt (Cond.code yX8_signAt cX8_signAt 2 (some .char)) 1 := ⟨⟨qi_X8_signAt, qv_X8_signAt⟩, qc_X8_signAt, qn_X8, by decide +kernel, by decide +kernel, by decide +kernel⟩
set_option maxHeartbeats 4000000 in
set_option maxRecDepth 100000 in
theorem c_X8_signAt (l : Launch) (D : va_G) (g : Nat → ClassId) (q_this q_signs : Nat) (p1 : Int32) (f_size : Int32) (a_signs : Nat → Int32) (o : Int32) (h : F_X8_signAt p1 a_signs = some o) : MR l yX8_signAt (Cond.code yX8_signAt cX8_signAt 2 (some .char)) { frames := 0, cells := 0, slots := 0, locals := 0 } D g [.ref q_this, .int p1] [(q_this, .inr (8, [.ref q_signs, .int f_size])), (q_signs, .inl (g 1, 20, .inl a_signs))] (some (.int o)) := by
  refine z_rd_start (by decide) (Nat.le_of_ble_eq_true rfl) ?_
  intro p e s m args below meth c Q X hr hQ
  refine z_lv (lv' := [(0, .ref q_this), (1, .int p1)]) rfl ?_
  refine z_iload_n X 1 dX8_signAt_0 rfl rfl ?_
  refine z_if_lt X 22 dX8_signAt_1 (by decide) h (fun _ h => ?_) (fun _ h => ?_)
  · refine z_bipush X (32 : Int32) dX8_signAt_22 (by decide) ?_
    obtain ⟨e1, h⟩ := grd_p h
    exact z_zretR X hQ hr dX8_signAt_24 (nar_char e1) h
  · refine z_iload_n X 1 dX8_signAt_4 rfl rfl ?_
    refine z_aload_n X 0 dX8_signAt_5 rfl rfl ?_
    refine z_get (q0 := 0) (k := 0) (ci := 8) X IR_P iw_X8 rfl qf_X8_X8_signs (by decide) dX8_signAt_6 rfl rfl ?_
    refine z_alen (q0 := 1) (v := (20 : Int32)) X IR_P 1 dX8_signAt_9 rfl rfl rfl ?_
    refine z_icmp_ge X 22 dX8_signAt_10 (by decide) h (fun _ h => ?_) (fun _ h => ?_)
    · refine z_bipush X (32 : Int32) dX8_signAt_22 (by decide) ?_
      obtain ⟨e2, h⟩ := grd_p h
      exact z_zretR X hQ hr dX8_signAt_24 (nar_char e2) h
    · refine z_aload_n X 0 dX8_signAt_13 rfl rfl ?_
      refine z_get (q0 := 0) (k := 0) (ci := 8) X IR_P iw_X8 rfl qf_X8_X8_signs (by decide) dX8_signAt_14 rfl rfl ?_
      refine z_iload_n X 1 dX8_signAt_17 rfl rfl ?_
      refine z_cald (q0 := 1) X IR_P dX8_signAt_18 rfl h (fun h => ?_)
      refine z_goto X 24 dX8_signAt_19 (by decide) ?_
      obtain ⟨e3, h⟩ := grd_p h
      exact z_zretR X hQ hr dX8_signAt_24 (nar_char e3) h

def F_X3_isFull (f_size : Int32) : Option (Int32) :=
  brn (f_size < (60 : Int32)) (some ((0 : Int32))) (some ((1 : Int32)))
theorem dX3_isFull_0 : decode cX3_isFull 0 = .ok (.aload_n 0, 1) := by decide +kernel
theorem dX3_isFull_1 : decode cX3_isFull 1 = .ok (.getfield 22, 3) := by decide +kernel
theorem dX3_isFull_4 : decode cX3_isFull 4 = .ok (.bipush 60, 2) := by decide +kernel
theorem dX3_isFull_6 : decode cX3_isFull 6 = .ok (.if_icmp .lt 7, 3) := by decide +kernel
theorem dX3_isFull_9 : decode cX3_isFull 9 = .ok (.iconst 1, 1) := by decide +kernel
theorem dX3_isFull_10 : decode cX3_isFull 10 = .ok (.goto 4, 3) := by decide +kernel
theorem dX3_isFull_13 : decode cX3_isFull 13 = .ok (.iconst 0, 1) := by decide +kernel
theorem dX3_isFull_14 : decode cX3_isFull 14 = .ok (.ireturn, 1) := by decide +kernel
theorem k_X3_isFull : cardV yX3_isFull (Cond.code yX3_isFull cX3_isFull 1 (some .boolean)) 0 := ⟨⟨qi_X3_isFull, qv_X3_isFull⟩, qc_X3_isFull, qn_X3, by decide +kernel, by decide +kernel, by decide +kernel⟩
set_option maxHeartbeats 4000000 in
set_option maxRecDepth 100000 in
theorem c_X3_isFull (l : Launch) (D : va_G) (g : Nat → ClassId) (q_this q_signs q_kinds q_numbers : Nat) (f_size : Int32) (f_count : Int32) (f_place : Int32) (f_errorPlace : Int32) (o : Int32) (h : F_X3_isFull f_size = some o) : MR l yX3_isFull (Cond.code yX3_isFull cX3_isFull 1 (some .boolean)) { frames := 0, cells := 0, slots := 0, locals := 0 } D g [.ref q_this] [(q_this, .inr (4, [.ref q_signs, .ref q_kinds, .ref q_numbers, .int f_size, .int f_count, .int f_place, .int f_errorPlace]))] (some (.int o)) := by
  refine z_rd_start (by decide) (Nat.le_of_ble_eq_true rfl) ?_
  intro p e s m args below meth c Q X hr hQ
  refine z_lv (lv' := [(0, .ref q_this)]) rfl ?_
  refine z_aload_n X 0 dX3_isFull_0 rfl rfl ?_
  refine z_get (q0 := 0) (k := 3) (ci := 4) X IR_P iw_X3 rfl qf_X3_X3_size (by decide) dX3_isFull_1 rfl rfl ?_
  refine z_bipush X (60 : Int32) dX3_isFull_4 (by decide) ?_
  refine z_icmp_lt X 13 dX3_isFull_6 (by decide) h (fun _ h => ?_) (fun _ h => ?_)
  · refine z_iconst X (0 : Int32) dX3_isFull_13 (by decide) ?_
    exact z_zretR X hQ hr dX3_isFull_14 rfl h
  · refine z_iconst X (1 : Int32) dX3_isFull_9 (by decide) ?_
    refine z_goto X 14 dX3_isFull_10 (by decide) ?_
    exact z_zretR X hQ hr dX3_isFull_14 rfl h

def J_X3_add_32 (p1 : Int32) (f_size : Int32) (a_signs : Nat → Int32) : Option (Int32 × Int32 × (Nat → Int32)) :=
  some (f_size, f_size, a_signs)

def F_X3_add (p1 : Int32) (f_size : Int32) (a_signs : Nat → Int32) : Option (Int32 × Int32 × (Nat → Int32)) :=
  brn ((60 : Int32) ≤ f_size) (J_X3_add_32 p1 f_size a_signs) (grd (inb f_size 60) (J_X3_add_32 p1 (f_size + (1 : Int32)) (upd a_signs f_size.toNatClampNeg (vp_nar .char p1))))
theorem dX3_add_0 : decode cX3_add 0 = .ok (.aload_n 0, 1) := by decide +kernel
theorem dX3_add_1 : decode cX3_add 1 = .ok (.getfield 22, 3) := by decide +kernel
theorem dX3_add_4 : decode cX3_add 4 = .ok (.aload_n 0, 1) := by decide +kernel
theorem dX3_add_5 : decode cX3_add 5 = .ok (.getfield 9, 3) := by decide +kernel
theorem dX3_add_8 : decode cX3_add 8 = .ok (.arraylength, 1) := by decide +kernel
theorem dX3_add_9 : decode cX3_add 9 = .ok (.if_icmp .ge 23, 3) := by decide +kernel
theorem dX3_add_12 : decode cX3_add 12 = .ok (.aload_n 0, 1) := by decide +kernel
theorem dX3_add_13 : decode cX3_add 13 = .ok (.getfield 9, 3) := by decide +kernel
theorem dX3_add_16 : decode cX3_add 16 = .ok (.aload_n 0, 1) := by decide +kernel
theorem dX3_add_17 : decode cX3_add 17 = .ok (.getfield 22, 3) := by decide +kernel
theorem dX3_add_20 : decode cX3_add 20 = .ok (.iload_n 1, 1) := by decide +kernel
theorem dX3_add_21 : decode cX3_add 21 = .ok (.castore, 1) := by decide +kernel
theorem dX3_add_22 : decode cX3_add 22 = .ok (.aload_n 0, 1) := by decide +kernel
theorem dX3_add_23 : decode cX3_add 23 = .ok (.dup, 1) := by decide +kernel
theorem dX3_add_24 : decode cX3_add 24 = .ok (.getfield 22, 3) := by decide +kernel
theorem dX3_add_27 : decode cX3_add 27 = .ok (.iconst 1, 1) := by decide +kernel
theorem dX3_add_28 : decode cX3_add 28 = .ok (.iadd, 1) := by decide +kernel
theorem dX3_add_29 : decode cX3_add 29 = .ok (.putfield 22, 3) := by decide +kernel
theorem dX3_add_32 : decode cX3_add 32 = .ok (.aload_n 0, 1) := by decide +kernel
theorem dX3_add_33 : decode cX3_add 33 = .ok (.getfield 22, 3) := by decide +kernel
theorem dX3_add_36 : decode cX3_add 36 = .ok (.ireturn, 1) := by decide +kernel
theorem k_X3_add : cardV yX3_add (Cond.code yX3_add cX3_add 2 (some .int)) 1 := ⟨⟨qi_X3_add, qv_X3_add⟩, qc_X3_add, qn_X3, by decide +kernel, by decide +kernel, by decide +kernel⟩
set_option maxHeartbeats 4000000 in
set_option maxRecDepth 100000 in
theorem c_X3_add (l : Launch) (D : va_G) (g : Nat → ClassId) (q_this q_signs q_kinds q_numbers : Nat) (p1 : Int32) (f_size : Int32) (f_count : Int32) (f_place : Int32) (f_errorPlace : Int32) (a_signs : Nat → Int32) (o : Int32 × Int32 × (Nat → Int32)) (h : F_X3_add p1 f_size a_signs = some o) : MW l yX3_add (Cond.code yX3_add cX3_add 2 (some .int)) { frames := 0, cells := 0, slots := 0, locals := 0 } D g [.ref q_this, .int p1] [(q_this, .inr (4, [.ref q_signs, .ref q_kinds, .ref q_numbers, .int f_size, .int f_count, .int f_place, .int f_errorPlace])), (q_signs, .inl (g 1, 60, .inl a_signs))] (some (.int o.1)) [(q_this, .inr (4, [.ref q_signs, .ref q_kinds, .ref q_numbers, .int o.2.1, .int f_count, .int f_place, .int f_errorPlace])), (q_signs, .inl (g 1, 60, .inl o.2.2))] := by
  refine z_wr_start (by decide) (Nat.le_of_ble_eq_true rfl) ?_
  intro p e s m args below meth c Q A X hr hQ hA
  refine z_lv (lv' := [(0, .ref q_this), (1, .int p1)]) rfl ?_
  have H32 : ∀ (f_size : Int32) (a_signs : Nat → Int32), J_X3_add_32 p1 f_size a_signs = some o → Z p l e { frames := 0, cells := 0, slots := 0, locals := 0 } s m args below meth c Q 2 0 0 (IW D A s [(q_this, .inr (4, [.ref q_signs, .ref q_kinds, .ref q_numbers, .int f_size, .int f_count, .int f_place, .int f_errorPlace])), (q_signs, .inl (g 1, 60, .inl a_signs))]) 32 [(0, .ref q_this)] [] := by
    intro f_size a_signs h
    refine z_aload_n X 0 dX3_add_32 rfl rfl ?_
    refine z_get (q0 := 0) (k := 3) (ci := 4) X IW_P iw_X3 rfl qf_X3_X3_size (by decide) dX3_add_33 rfl rfl ?_
    cases h
    exact z_iretW X hQ hA hr dX3_add_36
  refine z_aload_n X 0 dX3_add_0 rfl rfl ?_
  refine z_get (q0 := 0) (k := 3) (ci := 4) X IW_P iw_X3 rfl qf_X3_X3_size (by decide) dX3_add_1 rfl rfl ?_
  refine z_aload_n X 0 dX3_add_4 rfl rfl ?_
  refine z_get (q0 := 0) (k := 0) (ci := 4) X IW_P iw_X3 rfl qf_X3_X3_signs (by decide) dX3_add_5 rfl rfl ?_
  refine z_alen (q0 := 1) (v := (60 : Int32)) X IW_P 1 dX3_add_8 rfl rfl rfl ?_
  refine z_icmp_ge X 32 dX3_add_9 (by decide) h (fun _ h => ?_) (fun _ h => ?_)
  · refine z_sub (lv' := [(0, .ref q_this)]) [0] rfl ?_
    exact H32 f_size a_signs h
  · refine z_aload_n X 0 dX3_add_12 rfl rfl ?_
    refine z_get (q0 := 0) (k := 0) (ci := 4) X IW_P iw_X3 rfl qf_X3_X3_signs (by decide) dX3_add_13 rfl rfl ?_
    refine z_aload_n X 0 dX3_add_16 rfl rfl ?_
    refine z_get (q0 := 0) (k := 3) (ci := 4) X IW_P iw_X3 rfl qf_X3_X3_size (by decide) dX3_add_17 rfl rfl ?_
    refine z_iload_n X 1 dX3_add_20 rfl rfl ?_
    refine z_cast (q0 := 1) (ws' := [(q_this, .inr (4, [.ref q_signs, .ref q_kinds, .ref q_numbers, .int f_size, .int f_count, .int f_place, .int f_errorPlace])), (q_signs, .inl (g 1, 60, .inl (upd a_signs f_size.toNatClampNeg (vp_nar .char p1))))]) X dX3_add_21 rfl h rfl (fun h => ?_)
    refine z_aload_n X 0 dX3_add_22 rfl rfl ?_
    refine z_dup X dX3_add_23 rfl ?_
    refine z_get (q0 := 0) (k := 3) (ci := 4) X IW_P iw_X3 rfl qf_X3_X3_size (by decide) dX3_add_24 rfl rfl ?_
    refine z_iconst X (1 : Int32) dX3_add_27 (by decide) ?_
    refine z_iadd X dX3_add_28 ?_
    refine z_put (q0 := 0) (k := 3) (ci := 4) (ws' := [(q_this, .inr (4, [.ref q_signs, .ref q_kinds, .ref q_numbers, .int (f_size + (1 : Int32)), .int f_count, .int f_place, .int f_errorPlace])), (q_signs, .inl (g 1, 60, .inl (upd a_signs f_size.toNatClampNeg (vp_nar .char p1))))]) X iw_X3 tyX3_ok nmX3 rfl qf_X3_X3_size (by decide) rfl rfl dX3_add_29 rfl rfl rfl (Nat.le_of_ble_eq_true rfl) rfl ?_
    refine z_sub (lv' := [(0, .ref q_this)]) [0] rfl ?_
    exact H32 (f_size + (1 : Int32)) (upd a_signs f_size.toNatClampNeg (vp_nar .char p1)) h

def F_X3_signHere (f_size : Int32) (f_place : Int32) (a_signs : Nat → Int32) : Option (Int32) :=
  brn (f_place < 0) (some (((-1) : Int32))) (brn (f_size ≤ f_place) (some (((-1) : Int32))) (brn ((60 : Int32) ≤ f_place) (some (((-1) : Int32))) (grd (inb f_place 60) (some (a_signs f_place.toNatClampNeg)))))
theorem dX3_signHere_0 : decode cX3_signHere 0 = .ok (.aload_n 0, 1) := by decide +kernel
theorem dX3_signHere_1 : decode cX3_signHere 1 = .ok (.getfield 29, 3) := by decide +kernel
theorem dX3_signHere_4 : decode cX3_signHere 4 = .ok (.ifCond .lt 38, 3) := by decide +kernel
theorem dX3_signHere_7 : decode cX3_signHere 7 = .ok (.aload_n 0, 1) := by decide +kernel
theorem dX3_signHere_8 : decode cX3_signHere 8 = .ok (.getfield 29, 3) := by decide +kernel
theorem dX3_signHere_11 : decode cX3_signHere 11 = .ok (.aload_n 0, 1) := by decide +kernel
theorem dX3_signHere_12 : decode cX3_signHere 12 = .ok (.getfield 22, 3) := by decide +kernel
theorem dX3_signHere_15 : decode cX3_signHere 15 = .ok (.if_icmp .ge 27, 3) := by decide +kernel
theorem dX3_signHere_18 : decode cX3_signHere 18 = .ok (.aload_n 0, 1) := by decide +kernel
theorem dX3_signHere_19 : decode cX3_signHere 19 = .ok (.getfield 29, 3) := by decide +kernel
theorem dX3_signHere_22 : decode cX3_signHere 22 = .ok (.aload_n 0, 1) := by decide +kernel
theorem dX3_signHere_23 : decode cX3_signHere 23 = .ok (.getfield 9, 3) := by decide +kernel
theorem dX3_signHere_26 : decode cX3_signHere 26 = .ok (.arraylength, 1) := by decide +kernel
theorem dX3_signHere_27 : decode cX3_signHere 27 = .ok (.if_icmp .ge 15, 3) := by decide +kernel
theorem dX3_signHere_30 : decode cX3_signHere 30 = .ok (.aload_n 0, 1) := by decide +kernel
theorem dX3_signHere_31 : decode cX3_signHere 31 = .ok (.getfield 9, 3) := by decide +kernel
theorem dX3_signHere_34 : decode cX3_signHere 34 = .ok (.aload_n 0, 1) := by decide +kernel
theorem dX3_signHere_35 : decode cX3_signHere 35 = .ok (.getfield 29, 3) := by decide +kernel
theorem dX3_signHere_38 : decode cX3_signHere 38 = .ok (.caload, 1) := by decide +kernel
theorem dX3_signHere_39 : decode cX3_signHere 39 = .ok (.goto 4, 3) := by decide +kernel
theorem dX3_signHere_42 : decode cX3_signHere 42 = .ok (.iconst (-1), 1) := by decide +kernel
theorem dX3_signHere_43 : decode cX3_signHere 43 = .ok (.ireturn, 1) := by decide +kernel
theorem k_X3_signHere : cardV yX3_signHere (Cond.code yX3_signHere cX3_signHere 1 (some .int)) 0 := ⟨⟨qi_X3_signHere, qv_X3_signHere⟩, qc_X3_signHere, qn_X3, by decide +kernel, by decide +kernel, by decide +kernel⟩
set_option maxHeartbeats 4000000 in
set_option maxRecDepth 100000 in
theorem c_X3_signHere (l : Launch) (D : va_G) (g : Nat → ClassId) (q_this q_signs q_kinds q_numbers : Nat) (f_size : Int32) (f_count : Int32) (f_place : Int32) (f_errorPlace : Int32) (a_signs : Nat → Int32) (o : Int32) (h : F_X3_signHere f_size f_place a_signs = some o) : MR l yX3_signHere (Cond.code yX3_signHere cX3_signHere 1 (some .int)) { frames := 0, cells := 0, slots := 0, locals := 0 } D g [.ref q_this] [(q_this, .inr (4, [.ref q_signs, .ref q_kinds, .ref q_numbers, .int f_size, .int f_count, .int f_place, .int f_errorPlace])), (q_signs, .inl (g 1, 60, .inl a_signs))] (some (.int o)) := by
  refine z_rd_start (by decide) (Nat.le_of_ble_eq_true rfl) ?_
  intro p e s m args below meth c Q X hr hQ
  refine z_lv (lv' := [(0, .ref q_this)]) rfl ?_
  refine z_aload_n X 0 dX3_signHere_0 rfl rfl ?_
  refine z_get (q0 := 0) (k := 5) (ci := 4) X IR_P iw_X3 rfl qf_X3_X3_place (by decide) dX3_signHere_1 rfl rfl ?_
  refine z_if_lt X 42 dX3_signHere_4 (by decide) h (fun _ h => ?_) (fun _ h => ?_)
  · refine z_iconst X ((-1) : Int32) dX3_signHere_42 (by decide) ?_
    exact z_iretR X hQ hr dX3_signHere_43 h
  · refine z_aload_n X 0 dX3_signHere_7 rfl rfl ?_
    refine z_get (q0 := 0) (k := 5) (ci := 4) X IR_P iw_X3 rfl qf_X3_X3_place (by decide) dX3_signHere_8 rfl rfl ?_
    refine z_aload_n X 0 dX3_signHere_11 rfl rfl ?_
    refine z_get (q0 := 0) (k := 3) (ci := 4) X IR_P iw_X3 rfl qf_X3_X3_size (by decide) dX3_signHere_12 rfl rfl ?_
    refine z_icmp_ge X 42 dX3_signHere_15 (by decide) h (fun _ h => ?_) (fun _ h => ?_)
    · refine z_iconst X ((-1) : Int32) dX3_signHere_42 (by decide) ?_
      exact z_iretR X hQ hr dX3_signHere_43 h
    · refine z_aload_n X 0 dX3_signHere_18 rfl rfl ?_
      refine z_get (q0 := 0) (k := 5) (ci := 4) X IR_P iw_X3 rfl qf_X3_X3_place (by decide) dX3_signHere_19 rfl rfl ?_
      refine z_aload_n X 0 dX3_signHere_22 rfl rfl ?_
      refine z_get (q0 := 0) (k := 0) (ci := 4) X IR_P iw_X3 rfl qf_X3_X3_signs (by decide) dX3_signHere_23 rfl rfl ?_
      refine z_alen (q0 := 1) (v := (60 : Int32)) X IR_P 1 dX3_signHere_26 rfl rfl rfl ?_
      refine z_icmp_ge X 42 dX3_signHere_27 (by decide) h (fun _ h => ?_) (fun _ h => ?_)
      · refine z_iconst X ((-1) : Int32) dX3_signHere_42 (by decide) ?_
        exact z_iretR X hQ hr dX3_signHere_43 h
      · refine z_aload_n X 0 dX3_signHere_30 rfl rfl ?_
        refine z_get (q0 := 0) (k := 0) (ci := 4) X IR_P iw_X3 rfl qf_X3_X3_signs (by decide) dX3_signHere_31 rfl rfl ?_
        refine z_aload_n X 0 dX3_signHere_34 rfl rfl ?_
        refine z_get (q0 := 0) (k := 5) (ci := 4) X IR_P iw_X3 rfl qf_X3_X3_place (by decide) dX3_signHere_35 rfl rfl ?_
        refine z_cald (q0 := 1) X IR_P dX3_signHere_38 rfl h (fun h => ?_)
        refine z_goto X 43 dX3_signHere_39 (by decide) ?_
        exact z_iretR X hQ hr dX3_signHere_43 h

def F_X3_readSign (p1 : Int32) (f_size : Int32) (a_signs : Nat → Int32) (f_place : Int32) : Option (Int32 × Int32) :=
  bnd (F_X3_signHere f_size f_place a_signs) (fun o1 => brn (o1 = p1) (some ((1 : Int32), (f_place + (1 : Int32)))) (some ((0 : Int32), f_place)))
theorem dX3_readSign_0 : decode cX3_readSign 0 = .ok (.aload_n 0, 1) := by decide +kernel
theorem dX3_readSign_1 : decode cX3_readSign 1 = .ok (.invokevirtual 49, 3) := by decide +kernel
theorem dX3_readSign_4 : decode cX3_readSign 4 = .ok (.iload_n 1, 1) := by decide +kernel
theorem dX3_readSign_5 : decode cX3_readSign 5 = .ok (.if_icmp .eq 5, 3) := by decide +kernel
theorem dX3_readSign_8 : decode cX3_readSign 8 = .ok (.iconst 0, 1) := by decide +kernel
theorem dX3_readSign_9 : decode cX3_readSign 9 = .ok (.ireturn, 1) := by decide +kernel
theorem dX3_readSign_10 : decode cX3_readSign 10 = .ok (.aload_n 0, 1) := by decide +kernel
theorem dX3_readSign_11 : decode cX3_readSign 11 = .ok (.dup, 1) := by decide +kernel
theorem dX3_readSign_12 : decode cX3_readSign 12 = .ok (.getfield 29, 3) := by decide +kernel
theorem dX3_readSign_15 : decode cX3_readSign 15 = .ok (.iconst 1, 1) := by decide +kernel
theorem dX3_readSign_16 : decode cX3_readSign 16 = .ok (.iadd, 1) := by decide +kernel
theorem dX3_readSign_17 : decode cX3_readSign 17 = .ok (.putfield 29, 3) := by decide +kernel
theorem dX3_readSign_20 : decode cX3_readSign 20 = .ok (.iconst 1, 1) := by decide +kernel
theorem dX3_readSign_21 : decode cX3_readSign 21 = .ok (.ireturn, 1) := by decide +kernel
theorem k_X3_readSign : cardV yX3_readSign (Cond.code yX3_readSign cX3_readSign 2 (some .boolean)) 1 := ⟨⟨qi_X3_readSign, qv_X3_readSign⟩, qc_X3_readSign, qn_X3, by decide +kernel, by decide +kernel, by decide +kernel⟩
set_option maxHeartbeats 4000000 in
set_option maxRecDepth 100000 in
theorem c_X3_readSign (l : Launch) (D : va_G) (g : Nat → ClassId) (q_this q_signs q_kinds q_numbers : Nat) (p1 : Int32) (f_size : Int32) (f_count : Int32) (f_place : Int32) (f_errorPlace : Int32) (a_signs : Nat → Int32) (o : Int32 × Int32) (h : F_X3_readSign p1 f_size a_signs f_place = some o) : MW l yX3_readSign (Cond.code yX3_readSign cX3_readSign 2 (some .boolean)) { frames := 1, cells := 0, slots := 0, locals := 20 } D g [.ref q_this, .int p1] [(q_this, .inr (4, [.ref q_signs, .ref q_kinds, .ref q_numbers, .int f_size, .int f_count, .int f_place, .int f_errorPlace])), (q_signs, .inl (g 1, 60, .inl a_signs))] (some (.int o.1)) [(q_this, .inr (4, [.ref q_signs, .ref q_kinds, .ref q_numbers, .int f_size, .int f_count, .int o.2, .int f_errorPlace])), (q_signs, .inl (g 1, 60, .inl a_signs))] := by
  refine z_wr_start (by decide) (Nat.le_of_ble_eq_true rfl) ?_
  intro p e s m args below meth c Q A X hr hQ hA
  refine z_lv (lv' := [(0, .ref q_this), (1, .int p1)]) rfl ?_
  refine z_aload_n X 0 dX3_readSign_0 rfl rfl ?_
  obtain ⟨o1, e2, h⟩ := bnd_p h
  refine z_rdV (rest := []) (q0 := 0) (ci := 4) X IW_P k_X3_signHere (c_X3_signHere l D g q_this q_signs q_kinds q_numbers f_size f_count f_place f_errorPlace a_signs o1 e2) ql_X3_X3_signHere dX3_readSign_1 [0, 1] rfl rfl rfl rfl rfl rfl ⟨Nat.le_of_ble_eq_true rfl, Nat.le_of_ble_eq_true rfl, rfl, rfl, Nat.le_of_ble_eq_true rfl, Nat.le_of_ble_eq_true rfl⟩ (Nat.le_of_ble_eq_true rfl) ?_
  refine z_iload_n X 1 dX3_readSign_4 rfl rfl ?_
  refine z_icmp_eq X 10 dX3_readSign_5 (by decide) h (fun _ h => ?_) (fun _ h => ?_)
  · refine z_aload_n X 0 dX3_readSign_10 rfl rfl ?_
    refine z_dup X dX3_readSign_11 rfl ?_
    refine z_get (q0 := 0) (k := 5) (ci := 4) X IW_P iw_X3 rfl qf_X3_X3_place (by decide) dX3_readSign_12 rfl rfl ?_
    refine z_iconst X (1 : Int32) dX3_readSign_15 (by decide) ?_
    refine z_iadd X dX3_readSign_16 ?_
    refine z_put (q0 := 0) (k := 5) (ci := 4) (ws' := [(q_this, .inr (4, [.ref q_signs, .ref q_kinds, .ref q_numbers, .int f_size, .int f_count, .int (f_place + (1 : Int32)), .int f_errorPlace])), (q_signs, .inl (g 1, 60, .inl a_signs))]) X iw_X3 tyX3_ok nmX3 rfl qf_X3_X3_place (by decide) rfl rfl dX3_readSign_17 rfl rfl rfl (Nat.le_of_ble_eq_true rfl) rfl ?_
    refine z_iconst X (1 : Int32) dX3_readSign_20 (by decide) ?_
    cases h
    exact z_zretW X hQ hA hr dX3_readSign_21 rfl
  · refine z_iconst X (0 : Int32) dX3_readSign_8 (by decide) ?_
    cases h
    exact z_zretW X hQ hA hr dX3_readSign_9 rfl

def F_X3_digitHere (f_size : Int32) (f_place : Int32) (a_signs : Nat → Int32) : Option (Int32) :=
  bnd (F_X3_signHere f_size f_place a_signs) (fun o1 => bnd (F_X11_isWithin o1 (48 : Int32) (57 : Int32)) (fun o3 => brn (o3 = 0) (some (((-1) : Int32))) (some (o1 - (48 : Int32)))))
theorem dX3_digitHere_0 : decode cX3_digitHere 0 = .ok (.aload_n 0, 1) := by decide +kernel
theorem dX3_digitHere_1 : decode cX3_digitHere 1 = .ok (.invokevirtual 49, 3) := by decide +kernel
theorem dX3_digitHere_4 : decode cX3_digitHere 4 = .ok (.istore_n 1, 1) := by decide +kernel
theorem dX3_digitHere_5 : decode cX3_digitHere 5 = .ok (.iload_n 1, 1) := by decide +kernel
theorem dX3_digitHere_6 : decode cX3_digitHere 6 = .ok (.bipush 48, 2) := by decide +kernel
theorem dX3_digitHere_8 : decode cX3_digitHere 8 = .ok (.bipush 57, 2) := by decide +kernel
theorem dX3_digitHere_10 : decode cX3_digitHere 10 = .ok (.invokestatic 98, 3) := by decide +kernel
theorem dX3_digitHere_13 : decode cX3_digitHere 13 = .ok (.ifCond .eq 10, 3) := by decide +kernel
theorem dX3_digitHere_16 : decode cX3_digitHere 16 = .ok (.iload_n 1, 1) := by decide +kernel
theorem dX3_digitHere_17 : decode cX3_digitHere 17 = .ok (.bipush 48, 2) := by decide +kernel
theorem dX3_digitHere_19 : decode cX3_digitHere 19 = .ok (.isub, 1) := by decide +kernel
theorem dX3_digitHere_20 : decode cX3_digitHere 20 = .ok (.goto 4, 3) := by decide +kernel
theorem dX3_digitHere_23 : decode cX3_digitHere 23 = .ok (.iconst (-1), 1) := by decide +kernel
theorem dX3_digitHere_24 : decode cX3_digitHere 24 = .ok (.ireturn, 1) := by decide +kernel
theorem k_X3_digitHere : cardV yX3_digitHere (Cond.code yX3_digitHere cX3_digitHere 2 (some .int)) 0 := ⟨⟨qi_X3_digitHere, qv_X3_digitHere⟩, qc_X3_digitHere, qn_X3, by decide +kernel, by decide +kernel, by decide +kernel⟩
set_option maxHeartbeats 4000000 in
set_option maxRecDepth 100000 in
theorem c_X3_digitHere (l : Launch) (D : va_G) (g : Nat → ClassId) (q_this q_signs q_kinds q_numbers : Nat) (f_size : Int32) (f_count : Int32) (f_place : Int32) (f_errorPlace : Int32) (a_signs : Nat → Int32) (o : Int32) (h : F_X3_digitHere f_size f_place a_signs = some o) : MR l yX3_digitHere (Cond.code yX3_digitHere cX3_digitHere 2 (some .int)) { frames := 1, cells := 0, slots := 0, locals := 22 } D g [.ref q_this] [(q_this, .inr (4, [.ref q_signs, .ref q_kinds, .ref q_numbers, .int f_size, .int f_count, .int f_place, .int f_errorPlace])), (q_signs, .inl (g 1, 60, .inl a_signs))] (some (.int o)) := by
  refine z_rd_start (by decide) (Nat.le_of_ble_eq_true rfl) ?_
  intro p e s m args below meth c Q X hr hQ
  refine z_lv (lv' := [(0, .ref q_this)]) rfl ?_
  refine z_aload_n X 0 dX3_digitHere_0 rfl rfl ?_
  obtain ⟨o1, e2, h⟩ := bnd_p h
  refine z_rdV (rest := []) (q0 := 0) (ci := 4) X IR_P k_X3_signHere (c_X3_signHere l D g q_this q_signs q_kinds q_numbers f_size f_count f_place f_errorPlace a_signs o1 e2) ql_X3_X3_signHere dX3_digitHere_1 [0, 1] rfl rfl rfl rfl rfl rfl ⟨Nat.le_of_ble_eq_true rfl, Nat.le_of_ble_eq_true rfl, rfl, rfl, Nat.le_of_ble_eq_true rfl, Nat.le_of_ble_eq_true rfl⟩ (Nat.le_of_ble_eq_true rfl) ?_
  refine z_istore_n X [(1, .int o1), (0, .ref q_this)] dX3_digitHere_4 rfl (by decide) rfl ?_
  refine z_iload_n X 0 dX3_digitHere_5 rfl rfl ?_
  refine z_bipush X (48 : Int32) dX3_digitHere_6 (by decide) ?_
  refine z_bipush X (57 : Int32) dX3_digitHere_8 (by decide) ?_
  obtain ⟨o3, e4, h⟩ := bnd_p h
  refine z_rdSN (rest := []) X IR_P k_X11_isWithin (c_X11_isWithin l D g o1 (48 : Int32) (57 : Int32) o3 e4) qlN_X3_X11_isWithin dX3_digitHere_10 [] rfl rfl rfl ⟨Nat.le_of_ble_eq_true rfl, Nat.le_of_ble_eq_true rfl, rfl, rfl, Nat.le_of_ble_eq_true rfl, Nat.le_of_ble_eq_true rfl⟩ (Nat.le_of_ble_eq_true rfl) ?_
  refine z_if_eq X 23 dX3_digitHere_13 (by decide) h (fun _ h => ?_) (fun _ h => ?_)
  · refine z_iconst X ((-1) : Int32) dX3_digitHere_23 (by decide) ?_
    exact z_iretR X hQ hr dX3_digitHere_24 h
  · refine z_iload_n X 0 dX3_digitHere_16 rfl rfl ?_
    refine z_bipush X (48 : Int32) dX3_digitHere_17 (by decide) ?_
    refine z_isub X dX3_digitHere_19 ?_
    refine z_goto X 24 dX3_digitHere_20 (by decide) ?_
    exact z_iretR X hQ hr dX3_digitHere_24 h

def J_X3_readNumber_34 (p1 : Int32) (f_size : Int32) (a_signs : Nat → Int32) (t0 : Int32) (x2 : Int32) (f_place : Int32) : Option (Int32 × Int32) :=
  brn (t0 = ((-1) : Int32)) (some (x2, f_place)) (some (((10 : Int32) * x2) + t0, (f_place + (1 : Int32))))

def F_X3_readNumber (p1 : Int32) (f_size : Int32) (a_signs : Nat → Int32) (f_place : Int32) : Option (Int32 × Int32) :=
  bnd (F_X3_digitHere f_size f_place a_signs) (fun o1 => brn (o1 = ((-1) : Int32)) (some (((-1) : Int32), f_place)) (brn (p1 = 0) (J_X3_readNumber_34 p1 f_size a_signs ((-1) : Int32) o1 (f_place + (1 : Int32))) (bnd (F_X3_digitHere f_size (f_place + (1 : Int32)) a_signs) (fun o3 => J_X3_readNumber_34 p1 f_size a_signs o3 o1 (f_place + (1 : Int32))))))
theorem dX3_readNumber_0 : decode cX3_readNumber 0 = .ok (.aload_n 0, 1) := by decide +kernel
theorem dX3_readNumber_1 : decode cX3_readNumber 1 = .ok (.invokevirtual 95, 3) := by decide +kernel
theorem dX3_readNumber_4 : decode cX3_readNumber 4 = .ok (.istore_n 2, 1) := by decide +kernel
theorem dX3_readNumber_5 : decode cX3_readNumber 5 = .ok (.iload_n 2, 1) := by decide +kernel
theorem dX3_readNumber_6 : decode cX3_readNumber 6 = .ok (.iconst (-1), 1) := by decide +kernel
theorem dX3_readNumber_7 : decode cX3_readNumber 7 = .ok (.if_icmp .ne 5, 3) := by decide +kernel
theorem dX3_readNumber_10 : decode cX3_readNumber 10 = .ok (.iconst (-1), 1) := by decide +kernel
theorem dX3_readNumber_11 : decode cX3_readNumber 11 = .ok (.ireturn, 1) := by decide +kernel
theorem dX3_readNumber_12 : decode cX3_readNumber 12 = .ok (.aload_n 0, 1) := by decide +kernel
theorem dX3_readNumber_13 : decode cX3_readNumber 13 = .ok (.dup, 1) := by decide +kernel
theorem dX3_readNumber_14 : decode cX3_readNumber 14 = .ok (.getfield 29, 3) := by decide +kernel
theorem dX3_readNumber_17 : decode cX3_readNumber 17 = .ok (.iconst 1, 1) := by decide +kernel
theorem dX3_readNumber_18 : decode cX3_readNumber 18 = .ok (.iadd, 1) := by decide +kernel
theorem dX3_readNumber_19 : decode cX3_readNumber 19 = .ok (.putfield 29, 3) := by decide +kernel
theorem dX3_readNumber_22 : decode cX3_readNumber 22 = .ok (.iload_n 1, 1) := by decide +kernel
theorem dX3_readNumber_23 : decode cX3_readNumber 23 = .ok (.ifCond .eq 10, 3) := by decide +kernel
theorem dX3_readNumber_26 : decode cX3_readNumber 26 = .ok (.aload_n 0, 1) := by decide +kernel
theorem dX3_readNumber_27 : decode cX3_readNumber 27 = .ok (.invokevirtual 95, 3) := by decide +kernel
theorem dX3_readNumber_30 : decode cX3_readNumber 30 = .ok (.goto 4, 3) := by decide +kernel
theorem dX3_readNumber_33 : decode cX3_readNumber 33 = .ok (.iconst (-1), 1) := by decide +kernel
theorem dX3_readNumber_34 : decode cX3_readNumber 34 = .ok (.istore_n 3, 1) := by decide +kernel
theorem dX3_readNumber_35 : decode cX3_readNumber 35 = .ok (.iload_n 3, 1) := by decide +kernel
theorem dX3_readNumber_36 : decode cX3_readNumber 36 = .ok (.iconst (-1), 1) := by decide +kernel
theorem dX3_readNumber_37 : decode cX3_readNumber 37 = .ok (.if_icmp .ne 5, 3) := by decide +kernel
theorem dX3_readNumber_40 : decode cX3_readNumber 40 = .ok (.iload_n 2, 1) := by decide +kernel
theorem dX3_readNumber_41 : decode cX3_readNumber 41 = .ok (.ireturn, 1) := by decide +kernel
theorem dX3_readNumber_42 : decode cX3_readNumber 42 = .ok (.aload_n 0, 1) := by decide +kernel
theorem dX3_readNumber_43 : decode cX3_readNumber 43 = .ok (.dup, 1) := by decide +kernel
theorem dX3_readNumber_44 : decode cX3_readNumber 44 = .ok (.getfield 29, 3) := by decide +kernel
theorem dX3_readNumber_47 : decode cX3_readNumber 47 = .ok (.iconst 1, 1) := by decide +kernel
theorem dX3_readNumber_48 : decode cX3_readNumber 48 = .ok (.iadd, 1) := by decide +kernel
theorem dX3_readNumber_49 : decode cX3_readNumber 49 = .ok (.putfield 29, 3) := by decide +kernel
theorem dX3_readNumber_52 : decode cX3_readNumber 52 = .ok (.bipush 10, 2) := by decide +kernel
theorem dX3_readNumber_54 : decode cX3_readNumber 54 = .ok (.iload_n 2, 1) := by decide +kernel
theorem dX3_readNumber_55 : decode cX3_readNumber 55 = .ok (.imul, 1) := by decide +kernel
theorem dX3_readNumber_56 : decode cX3_readNumber 56 = .ok (.iload_n 3, 1) := by decide +kernel
theorem dX3_readNumber_57 : decode cX3_readNumber 57 = .ok (.iadd, 1) := by decide +kernel
theorem dX3_readNumber_58 : decode cX3_readNumber 58 = .ok (.ireturn, 1) := by decide +kernel
theorem k_X3_readNumber : cardV yX3_readNumber (Cond.code yX3_readNumber cX3_readNumber 4 (some .int)) 1 := ⟨⟨qi_X3_readNumber, qv_X3_readNumber⟩, qc_X3_readNumber, qn_X3, by decide +kernel, by decide +kernel, by decide +kernel⟩
set_option maxHeartbeats 4000000 in
set_option maxRecDepth 100000 in
theorem c_X3_readNumber (l : Launch) (D : va_G) (g : Nat → ClassId) (q_this q_signs q_kinds q_numbers : Nat) (p1 : Int32) (f_size : Int32) (f_count : Int32) (f_place : Int32) (f_errorPlace : Int32) (a_signs : Nat → Int32) (o : Int32 × Int32) (h : F_X3_readNumber p1 f_size a_signs f_place = some o) : MW l yX3_readNumber (Cond.code yX3_readNumber cX3_readNumber 4 (some .int)) { frames := 2, cells := 0, slots := 0, locals := 43 } D g [.ref q_this, .int p1] [(q_this, .inr (4, [.ref q_signs, .ref q_kinds, .ref q_numbers, .int f_size, .int f_count, .int f_place, .int f_errorPlace])), (q_signs, .inl (g 1, 60, .inl a_signs))] (some (.int o.1)) [(q_this, .inr (4, [.ref q_signs, .ref q_kinds, .ref q_numbers, .int f_size, .int f_count, .int o.2, .int f_errorPlace])), (q_signs, .inl (g 1, 60, .inl a_signs))] := by
  refine z_wr_start (by decide) (Nat.le_of_ble_eq_true rfl) ?_
  intro p e s m args below meth c Q A X hr hQ hA
  refine z_lv (lv' := [(0, .ref q_this), (1, .int p1)]) rfl ?_
  have H34 : ∀ (t0 : Int32) (x2 : Int32) (f_place : Int32), J_X3_readNumber_34 p1 f_size a_signs t0 x2 f_place = some o → Z p l e { frames := 2, cells := 0, slots := 0, locals := 43 } s m args below meth c Q 4 0 0 (IW D A s [(q_this, .inr (4, [.ref q_signs, .ref q_kinds, .ref q_numbers, .int f_size, .int f_count, .int f_place, .int f_errorPlace])), (q_signs, .inl (g 1, 60, .inl a_signs))]) 34 [(0, .ref q_this), (2, .int x2)] [.int t0] := by
    intro t0 x2 f_place h
    refine z_istore_n X [(3, .int t0), (0, .ref q_this), (2, .int x2)] dX3_readNumber_34 rfl (by decide) rfl ?_
    refine z_iload_n X 0 dX3_readNumber_35 rfl rfl ?_
    refine z_iconst X ((-1) : Int32) dX3_readNumber_36 (by decide) ?_
    refine z_icmp_ne X 42 dX3_readNumber_37 (by decide) h (fun _ h => ?_) (fun _ h => ?_)
    · refine z_iload_n X 2 dX3_readNumber_40 rfl rfl ?_
      cases h
      exact z_iretW X hQ hA hr dX3_readNumber_41
    · refine z_aload_n X 1 dX3_readNumber_42 rfl rfl ?_
      refine z_dup X dX3_readNumber_43 rfl ?_
      refine z_get (q0 := 0) (k := 5) (ci := 4) X IW_P iw_X3 rfl qf_X3_X3_place (by decide) dX3_readNumber_44 rfl rfl ?_
      refine z_iconst X (1 : Int32) dX3_readNumber_47 (by decide) ?_
      refine z_iadd X dX3_readNumber_48 ?_
      refine z_put (q0 := 0) (k := 5) (ci := 4) (ws' := [(q_this, .inr (4, [.ref q_signs, .ref q_kinds, .ref q_numbers, .int f_size, .int f_count, .int (f_place + (1 : Int32)), .int f_errorPlace])), (q_signs, .inl (g 1, 60, .inl a_signs))]) X iw_X3 tyX3_ok nmX3 rfl qf_X3_X3_place (by decide) rfl rfl dX3_readNumber_49 rfl rfl rfl (Nat.le_of_ble_eq_true rfl) rfl ?_
      refine z_bipush X (10 : Int32) dX3_readNumber_52 (by decide) ?_
      refine z_iload_n X 2 dX3_readNumber_54 rfl rfl ?_
      refine z_imul X dX3_readNumber_55 ?_
      refine z_iload_n X 0 dX3_readNumber_56 rfl rfl ?_
      refine z_iadd X dX3_readNumber_57 ?_
      cases h
      exact z_iretW X hQ hA hr dX3_readNumber_58
  refine z_aload_n X 0 dX3_readNumber_0 rfl rfl ?_
  obtain ⟨o1, e2, h⟩ := bnd_p h
  refine z_rdV (rest := []) (q0 := 0) (ci := 4) X IW_P k_X3_digitHere (c_X3_digitHere l D g q_this q_signs q_kinds q_numbers f_size f_count f_place f_errorPlace a_signs o1 e2) ql_X3_X3_digitHere dX3_readNumber_1 [0, 1] rfl rfl rfl rfl rfl rfl ⟨Nat.le_of_ble_eq_true rfl, Nat.le_of_ble_eq_true rfl, rfl, rfl, Nat.le_of_ble_eq_true rfl, Nat.le_of_ble_eq_true rfl⟩ (Nat.le_of_ble_eq_true rfl) ?_
  refine z_istore_n X [(2, .int o1), (0, .ref q_this), (1, .int p1)] dX3_readNumber_4 rfl (by decide) rfl ?_
  refine z_iload_n X 0 dX3_readNumber_5 rfl rfl ?_
  refine z_iconst X ((-1) : Int32) dX3_readNumber_6 (by decide) ?_
  refine z_icmp_ne X 12 dX3_readNumber_7 (by decide) h (fun _ h => ?_) (fun _ h => ?_)
  · refine z_iconst X ((-1) : Int32) dX3_readNumber_10 (by decide) ?_
    cases h
    exact z_iretW X hQ hA hr dX3_readNumber_11
  · refine z_aload_n X 1 dX3_readNumber_12 rfl rfl ?_
    refine z_dup X dX3_readNumber_13 rfl ?_
    refine z_get (q0 := 0) (k := 5) (ci := 4) X IW_P iw_X3 rfl qf_X3_X3_place (by decide) dX3_readNumber_14 rfl rfl ?_
    refine z_iconst X (1 : Int32) dX3_readNumber_17 (by decide) ?_
    refine z_iadd X dX3_readNumber_18 ?_
    refine z_put (q0 := 0) (k := 5) (ci := 4) (ws' := [(q_this, .inr (4, [.ref q_signs, .ref q_kinds, .ref q_numbers, .int f_size, .int f_count, .int (f_place + (1 : Int32)), .int f_errorPlace])), (q_signs, .inl (g 1, 60, .inl a_signs))]) X iw_X3 tyX3_ok nmX3 rfl qf_X3_X3_place (by decide) rfl rfl dX3_readNumber_19 rfl rfl rfl (Nat.le_of_ble_eq_true rfl) rfl ?_
    refine z_iload_n X 2 dX3_readNumber_22 rfl rfl ?_
    refine z_if_eq X 33 dX3_readNumber_23 (by decide) h (fun _ h => ?_) (fun _ h => ?_)
    · refine z_iconst X ((-1) : Int32) dX3_readNumber_33 (by decide) ?_
      refine z_sub (lv' := [(0, .ref q_this), (2, .int o1)]) [1, 0] rfl ?_
      exact H34 ((-1) : Int32) o1 (f_place + (1 : Int32)) h
    · refine z_aload_n X 1 dX3_readNumber_26 rfl rfl ?_
      obtain ⟨o3, e4, h⟩ := bnd_p h
      refine z_rdV (rest := []) (q0 := 0) (ci := 4) X IW_P k_X3_digitHere (c_X3_digitHere l D g q_this q_signs q_kinds q_numbers f_size f_count (f_place + (1 : Int32)) f_errorPlace a_signs o3 e4) ql_X3_X3_digitHere dX3_readNumber_27 [0, 1] rfl rfl rfl rfl rfl rfl ⟨Nat.le_of_ble_eq_true rfl, Nat.le_of_ble_eq_true rfl, rfl, rfl, Nat.le_of_ble_eq_true rfl, Nat.le_of_ble_eq_true rfl⟩ (Nat.le_of_ble_eq_true rfl) ?_
      refine z_goto X 34 dX3_readNumber_30 (by decide) ?_
      refine z_sub (lv' := [(0, .ref q_this), (2, .int o1)]) [1, 0] rfl ?_
      exact H34 o3 o1 (f_place + (1 : Int32)) h

def F_X3_clear (f_size : Int32) : Option (Int32) :=
  some ((0 : Int32))
theorem dX3_clear_0 : decode cX3_clear 0 = .ok (.aload_n 0, 1) := by decide +kernel
theorem dX3_clear_1 : decode cX3_clear 1 = .ok (.iconst 0, 1) := by decide +kernel
theorem dX3_clear_2 : decode cX3_clear 2 = .ok (.putfield 22, 3) := by decide +kernel
theorem dX3_clear_5 : decode cX3_clear 5 = .ok (.return_, 1) := by decide +kernel
theorem k_X3_clear : cardV yX3_clear (Cond.code yX3_clear cX3_clear 1 none) 0 := ⟨⟨qi_X3_clear, qv_X3_clear⟩, qc_X3_clear, qn_X3, by decide +kernel, by decide +kernel, by decide +kernel⟩
set_option maxHeartbeats 4000000 in
set_option maxRecDepth 100000 in
theorem c_X3_clear (l : Launch) (D : va_G) (g : Nat → ClassId) (q_this q_signs q_kinds q_numbers : Nat) (f_size : Int32) (f_count : Int32) (f_place : Int32) (f_errorPlace : Int32) (o : Int32) (h : F_X3_clear f_size = some o) : MW l yX3_clear (Cond.code yX3_clear cX3_clear 1 none) { frames := 0, cells := 0, slots := 0, locals := 0 } D g [.ref q_this] [(q_this, .inr (4, [.ref q_signs, .ref q_kinds, .ref q_numbers, .int f_size, .int f_count, .int f_place, .int f_errorPlace]))] none [(q_this, .inr (4, [.ref q_signs, .ref q_kinds, .ref q_numbers, .int o, .int f_count, .int f_place, .int f_errorPlace]))] := by
  refine z_wr_start (by decide) (Nat.le_of_ble_eq_true rfl) ?_
  intro p e s m args below meth c Q A X hr hQ hA
  refine z_lv (lv' := [(0, .ref q_this)]) rfl ?_
  refine z_aload_n X 0 dX3_clear_0 rfl rfl ?_
  refine z_iconst X (0 : Int32) dX3_clear_1 (by decide) ?_
  refine z_put (q0 := 0) (k := 3) (ci := 4) (ws' := [(q_this, .inr (4, [.ref q_signs, .ref q_kinds, .ref q_numbers, .int (0 : Int32), .int f_count, .int f_place, .int f_errorPlace]))]) X iw_X3 tyX3_ok nmX3 rfl qf_X3_X3_size (by decide) rfl rfl dX3_clear_2 rfl rfl rfl (Nat.le_of_ble_eq_true rfl) rfl ?_
  cases h
  exact z_vretW X hQ hA hr dX3_clear_5

def F_X3_count (f_count : Int32) : Option (Int32) :=
  some (f_count)
theorem dX3_count_0 : decode cX3_count 0 = .ok (.aload_n 0, 1) := by decide +kernel
theorem dX3_count_1 : decode cX3_count 1 = .ok (.getfield 26, 3) := by decide +kernel
theorem dX3_count_4 : decode cX3_count 4 = .ok (.ireturn, 1) := by decide +kernel
theorem k_X3_count : cardV yX3_count (Cond.code yX3_count cX3_count 1 (some .int)) 0 := ⟨⟨qi_X3_count, qv_X3_count⟩, qc_X3_count, qn_X3, by decide +kernel, by decide +kernel, by decide +kernel⟩
set_option maxHeartbeats 4000000 in
set_option maxRecDepth 100000 in
theorem c_X3_count (l : Launch) (D : va_G) (g : Nat → ClassId) (q_this q_signs q_kinds q_numbers : Nat) (f_size : Int32) (f_count : Int32) (f_place : Int32) (f_errorPlace : Int32) (o : Int32) (h : F_X3_count f_count = some o) : MR l yX3_count (Cond.code yX3_count cX3_count 1 (some .int)) { frames := 0, cells := 0, slots := 0, locals := 0 } D g [.ref q_this] [(q_this, .inr (4, [.ref q_signs, .ref q_kinds, .ref q_numbers, .int f_size, .int f_count, .int f_place, .int f_errorPlace]))] (some (.int o)) := by
  refine z_rd_start (by decide) (Nat.le_of_ble_eq_true rfl) ?_
  intro p e s m args below meth c Q X hr hQ
  refine z_lv (lv' := [(0, .ref q_this)]) rfl ?_
  refine z_aload_n X 0 dX3_count_0 rfl rfl ?_
  refine z_get (q0 := 0) (k := 4) (ci := 4) X IR_P iw_X3 rfl qf_X3_X3_count (by decide) dX3_count_1 rfl rfl ?_
  exact z_iretR X hQ hr dX3_count_4 h

def F_X3_numberAt (p1 : Int32) (p2 : Int32) (a_numbers : Nat → Int32) : Option (Int32) :=
  bnd (F_X7_at 180 (((3 : Int32) * p1) + p2) a_numbers) (fun o1 => some (o1))
theorem dX3_numberAt_0 : decode cX3_numberAt 0 = .ok (.aload_n 0, 1) := by decide +kernel
theorem dX3_numberAt_1 : decode cX3_numberAt 1 = .ok (.getfield 19, 3) := by decide +kernel
theorem dX3_numberAt_4 : decode cX3_numberAt 4 = .ok (.iconst 3, 1) := by decide +kernel
theorem dX3_numberAt_5 : decode cX3_numberAt 5 = .ok (.iload_n 1, 1) := by decide +kernel
theorem dX3_numberAt_6 : decode cX3_numberAt 6 = .ok (.imul, 1) := by decide +kernel
theorem dX3_numberAt_7 : decode cX3_numberAt 7 = .ok (.iload_n 2, 1) := by decide +kernel
theorem dX3_numberAt_8 : decode cX3_numberAt 8 = .ok (.iadd, 1) := by decide +kernel
theorem dX3_numberAt_9 : decode cX3_numberAt 9 = .ok (.invokestatic 35, 3) := by decide +kernel
theorem dX3_numberAt_12 : decode cX3_numberAt 12 = .ok (.ireturn, 1) := by decide +kernel
theorem k_X3_numberAt : cardV yX3_numberAt (Cond.code yX3_numberAt cX3_numberAt 3 (some .int)) 2 := ⟨⟨qi_X3_numberAt, qv_X3_numberAt⟩, qc_X3_numberAt, qn_X3, by decide +kernel, by decide +kernel, by decide +kernel⟩
set_option maxHeartbeats 4000000 in
set_option maxRecDepth 100000 in
theorem c_X3_numberAt (l : Launch) (D : va_G) (g : Nat → ClassId) (q_this q_signs q_kinds q_numbers : Nat) (p1 p2 : Int32) (f_size : Int32) (f_count : Int32) (f_place : Int32) (f_errorPlace : Int32) (a_numbers : Nat → Int32) (o : Int32) (h : F_X3_numberAt p1 p2 a_numbers = some o) : MR l yX3_numberAt (Cond.code yX3_numberAt cX3_numberAt 3 (some .int)) { frames := 1, cells := 0, slots := 0, locals := 21 } D g [.ref q_this, .int p1, .int p2] [(q_this, .inr (4, [.ref q_signs, .ref q_kinds, .ref q_numbers, .int f_size, .int f_count, .int f_place, .int f_errorPlace])), (q_numbers, .inl (g 0, 180, .inl a_numbers))] (some (.int o)) := by
  refine z_rd_start (by decide) (Nat.le_of_ble_eq_true rfl) ?_
  intro p e s m args below meth c Q X hr hQ
  refine z_lv (lv' := [(0, .ref q_this), (1, .int p1), (2, .int p2)]) rfl ?_
  refine z_aload_n X 0 dX3_numberAt_0 rfl rfl ?_
  refine z_get (q0 := 0) (k := 2) (ci := 4) X IR_P iw_X3 rfl qf_X3_X3_numbers (by decide) dX3_numberAt_1 rfl rfl ?_
  refine z_iconst X (3 : Int32) dX3_numberAt_4 (by decide) ?_
  refine z_iload_n X 1 dX3_numberAt_5 rfl rfl ?_
  refine z_imul X dX3_numberAt_6 ?_
  refine z_iload_n X 2 dX3_numberAt_7 rfl rfl ?_
  refine z_iadd X dX3_numberAt_8 ?_
  obtain ⟨o1, e2, h⟩ := bnd_p h
  refine z_rdS (rest := []) X IR_P k_X7_at (c_X7_at l D g q_numbers 180 (((3 : Int32) * p1) + p2) a_numbers o1 e2) ql_X3_X7_at dX3_numberAt_9 [1] rfl rfl rfl ⟨Nat.le_of_ble_eq_true rfl, Nat.le_of_ble_eq_true rfl, rfl, rfl, Nat.le_of_ble_eq_true rfl, Nat.le_of_ble_eq_true rfl⟩ (Nat.le_of_ble_eq_true rfl) ?_
  exact z_iretR X hQ hr dX3_numberAt_12 h

def F_X3_kindAt (p1 : Int32) (a_kinds : Nat → Int32) : Option (Int32) :=
  bnd (F_X7_at 60 p1 a_kinds) (fun o1 => some (o1))
theorem dX3_kindAt_0 : decode cX3_kindAt 0 = .ok (.aload_n 0, 1) := by decide +kernel
theorem dX3_kindAt_1 : decode cX3_kindAt 1 = .ok (.getfield 15, 3) := by decide +kernel
theorem dX3_kindAt_4 : decode cX3_kindAt 4 = .ok (.iload_n 1, 1) := by decide +kernel
theorem dX3_kindAt_5 : decode cX3_kindAt 5 = .ok (.invokestatic 35, 3) := by decide +kernel
theorem dX3_kindAt_8 : decode cX3_kindAt 8 = .ok (.ireturn, 1) := by decide +kernel
theorem k_X3_kindAt : cardV yX3_kindAt (Cond.code yX3_kindAt cX3_kindAt 2 (some .int)) 1 := ⟨⟨qi_X3_kindAt, qv_X3_kindAt⟩, qc_X3_kindAt, qn_X3, by decide +kernel, by decide +kernel, by decide +kernel⟩
set_option maxHeartbeats 4000000 in
set_option maxRecDepth 100000 in
theorem c_X3_kindAt (l : Launch) (D : va_G) (g : Nat → ClassId) (q_this q_signs q_kinds q_numbers : Nat) (p1 : Int32) (f_size : Int32) (f_count : Int32) (f_place : Int32) (f_errorPlace : Int32) (a_kinds : Nat → Int32) (o : Int32) (h : F_X3_kindAt p1 a_kinds = some o) : MR l yX3_kindAt (Cond.code yX3_kindAt cX3_kindAt 2 (some .int)) { frames := 1, cells := 0, slots := 0, locals := 21 } D g [.ref q_this, .int p1] [(q_this, .inr (4, [.ref q_signs, .ref q_kinds, .ref q_numbers, .int f_size, .int f_count, .int f_place, .int f_errorPlace])), (q_kinds, .inl (g 0, 60, .inl a_kinds))] (some (.int o)) := by
  refine z_rd_start (by decide) (Nat.le_of_ble_eq_true rfl) ?_
  intro p e s m args below meth c Q X hr hQ
  refine z_lv (lv' := [(0, .ref q_this), (1, .int p1)]) rfl ?_
  refine z_aload_n X 0 dX3_kindAt_0 rfl rfl ?_
  refine z_get (q0 := 0) (k := 1) (ci := 4) X IR_P iw_X3 rfl qf_X3_X3_kinds (by decide) dX3_kindAt_1 rfl rfl ?_
  refine z_iload_n X 1 dX3_kindAt_4 rfl rfl ?_
  obtain ⟨o1, e2, h⟩ := bnd_p h
  refine z_rdS (rest := []) X IR_P k_X7_at (c_X7_at l D g q_kinds 60 p1 a_kinds o1 e2) ql_X3_X7_at dX3_kindAt_5 [1] rfl rfl rfl ⟨Nat.le_of_ble_eq_true rfl, Nat.le_of_ble_eq_true rfl, rfl, rfl, Nat.le_of_ble_eq_true rfl, Nat.le_of_ble_eq_true rfl⟩ (Nat.le_of_ble_eq_true rfl) ?_
  exact z_iretR X hQ hr dX3_kindAt_8 h

def F_X11_judgeOrder (p1 : Int32) (p2 : Int32) (p3 : Int32) (p4 : Int32) (f_town_prankHouse : Int32) (f_town_houses_size : Int32) (a_town_houses_cells : Nat → Int32) (f_town_halls_size : Int32) (a_town_halls_rows : Nat → Int32) (a_town_halls_firsts : Nat → Int32) (a_town_halls_lasts : Nat → Int32) (f_town_posts_size : Int32) (a_town_posts_cells : Nat → Int32) (a_town_posts_tolds : Nat → Int32) (a_town_blocks : Nat → Int32) (a_town_kinds : Nat → Int32) (f_reason_number : Int32) (f_reason_detail : Int32) : Option (Int32 × Int32 × Int32) :=
  brn (p1 = (0 : Int32)) (bnd (F_X9_judgeHouse p2 p3 p4 f_town_houses_size a_town_houses_cells a_town_blocks f_reason_number f_reason_detail) (fun o2 => some (o2.1, o2.2.1, o2.2.2))) (brn (p1 = (1 : Int32)) (bnd (F_X9_judgeBlock p2 f_town_houses_size a_town_houses_cells f_reason_number f_reason_detail) (fun o5 => some (o5.1, o5.2.1, o5.2.2))) (brn (p1 = (2 : Int32)) (bnd (F_X9_judgeHall p2 p3 p4 f_town_halls_size a_town_halls_rows a_town_halls_firsts a_town_halls_lasts f_reason_number f_reason_detail) (fun o8 => some (o8.1, o8.2.1, o8.2.2))) (brn (p1 = (3 : Int32)) (bnd (F_X9_judgeRing p2 p3 p4 f_town_houses_size) (fun o11 => some (o11, f_reason_number, f_reason_detail))) (brn (p1 = (4 : Int32)) (bnd (F_X9_judgePost p2 f_town_posts_size a_town_posts_cells a_town_blocks f_reason_number f_reason_detail) (fun o14 => some (o14.1, o14.2.1, o14.2.2))) (brn (p1 = (5 : Int32)) (bnd (F_X9_judgeTell p2 p3 f_town_prankHouse f_town_posts_size a_town_posts_tolds a_town_kinds f_reason_number f_reason_detail) (fun o17 => some (o17.1, o17.2.1, o17.2.2))) (bnd (F_X9_judgeHours p2) (fun o19 => some (o19, f_reason_number, f_reason_detail))))))))
theorem dX11_judgeOrder_0 : decode cX11_judgeOrder 0 = .ok (.iload_n 1, 1) := by decide +kernel
theorem dX11_judgeOrder_1 : decode cX11_judgeOrder 1 = .ok (.tableswitch 123 0 5 #[39, 55, 68, 84, 96, 109], 39) := by decide +kernel
theorem dX11_judgeOrder_40 : decode cX11_judgeOrder 40 = .ok (.aload_n 0, 1) := by decide +kernel
theorem dX11_judgeOrder_41 : decode cX11_judgeOrder 41 = .ok (.getfield 10, 3) := by decide +kernel
theorem dX11_judgeOrder_44 : decode cX11_judgeOrder 44 = .ok (.iload_n 2, 1) := by decide +kernel
theorem dX11_judgeOrder_45 : decode cX11_judgeOrder 45 = .ok (.iload_n 3, 1) := by decide +kernel
theorem dX11_judgeOrder_46 : decode cX11_judgeOrder 46 = .ok (.iload 4, 2) := by decide +kernel
theorem dX11_judgeOrder_48 : decode cX11_judgeOrder 48 = .ok (.aload_n 0, 1) := by decide +kernel
theorem dX11_judgeOrder_49 : decode cX11_judgeOrder 49 = .ok (.getfield 36, 3) := by decide +kernel
theorem dX11_judgeOrder_52 : decode cX11_judgeOrder 52 = .ok (.invokevirtual 61, 3) := by decide +kernel
theorem dX11_judgeOrder_55 : decode cX11_judgeOrder 55 = .ok (.ireturn, 1) := by decide +kernel
theorem dX11_judgeOrder_56 : decode cX11_judgeOrder 56 = .ok (.aload_n 0, 1) := by decide +kernel
theorem dX11_judgeOrder_57 : decode cX11_judgeOrder 57 = .ok (.getfield 10, 3) := by decide +kernel
theorem dX11_judgeOrder_60 : decode cX11_judgeOrder 60 = .ok (.iload_n 2, 1) := by decide +kernel
theorem dX11_judgeOrder_61 : decode cX11_judgeOrder 61 = .ok (.aload_n 0, 1) := by decide +kernel
theorem dX11_judgeOrder_62 : decode cX11_judgeOrder 62 = .ok (.getfield 36, 3) := by decide +kernel
theorem dX11_judgeOrder_65 : decode cX11_judgeOrder 65 = .ok (.invokevirtual 95, 3) := by decide +kernel
theorem dX11_judgeOrder_68 : decode cX11_judgeOrder 68 = .ok (.ireturn, 1) := by decide +kernel
theorem dX11_judgeOrder_69 : decode cX11_judgeOrder 69 = .ok (.aload_n 0, 1) := by decide +kernel
theorem dX11_judgeOrder_70 : decode cX11_judgeOrder 70 = .ok (.getfield 10, 3) := by decide +kernel
theorem dX11_judgeOrder_73 : decode cX11_judgeOrder 73 = .ok (.iload_n 2, 1) := by decide +kernel
theorem dX11_judgeOrder_74 : decode cX11_judgeOrder 74 = .ok (.iload_n 3, 1) := by decide +kernel
theorem dX11_judgeOrder_75 : decode cX11_judgeOrder 75 = .ok (.iload 4, 2) := by decide +kernel
theorem dX11_judgeOrder_77 : decode cX11_judgeOrder 77 = .ok (.aload_n 0, 1) := by decide +kernel
theorem dX11_judgeOrder_78 : decode cX11_judgeOrder 78 = .ok (.getfield 36, 3) := by decide +kernel
theorem dX11_judgeOrder_81 : decode cX11_judgeOrder 81 = .ok (.invokevirtual 102, 3) := by decide +kernel
theorem dX11_judgeOrder_84 : decode cX11_judgeOrder 84 = .ok (.ireturn, 1) := by decide +kernel
theorem dX11_judgeOrder_85 : decode cX11_judgeOrder 85 = .ok (.aload_n 0, 1) := by decide +kernel
theorem dX11_judgeOrder_86 : decode cX11_judgeOrder 86 = .ok (.getfield 10, 3) := by decide +kernel
theorem dX11_judgeOrder_89 : decode cX11_judgeOrder 89 = .ok (.iload_n 2, 1) := by decide +kernel
theorem dX11_judgeOrder_90 : decode cX11_judgeOrder 90 = .ok (.iload_n 3, 1) := by decide +kernel
theorem dX11_judgeOrder_91 : decode cX11_judgeOrder 91 = .ok (.iload 4, 2) := by decide +kernel
theorem dX11_judgeOrder_93 : decode cX11_judgeOrder 93 = .ok (.invokevirtual 172, 3) := by decide +kernel
theorem dX11_judgeOrder_96 : decode cX11_judgeOrder 96 = .ok (.ireturn, 1) := by decide +kernel
theorem dX11_judgeOrder_97 : decode cX11_judgeOrder 97 = .ok (.aload_n 0, 1) := by decide +kernel
theorem dX11_judgeOrder_98 : decode cX11_judgeOrder 98 = .ok (.getfield 10, 3) := by decide +kernel
theorem dX11_judgeOrder_101 : decode cX11_judgeOrder 101 = .ok (.iload_n 2, 1) := by decide +kernel
theorem dX11_judgeOrder_102 : decode cX11_judgeOrder 102 = .ok (.aload_n 0, 1) := by decide +kernel
theorem dX11_judgeOrder_103 : decode cX11_judgeOrder 103 = .ok (.getfield 36, 3) := by decide +kernel
theorem dX11_judgeOrder_106 : decode cX11_judgeOrder 106 = .ok (.invokevirtual 197, 3) := by decide +kernel
theorem dX11_judgeOrder_109 : decode cX11_judgeOrder 109 = .ok (.ireturn, 1) := by decide +kernel
theorem dX11_judgeOrder_110 : decode cX11_judgeOrder 110 = .ok (.aload_n 0, 1) := by decide +kernel
theorem dX11_judgeOrder_111 : decode cX11_judgeOrder 111 = .ok (.getfield 10, 3) := by decide +kernel
theorem dX11_judgeOrder_114 : decode cX11_judgeOrder 114 = .ok (.iload_n 2, 1) := by decide +kernel
theorem dX11_judgeOrder_115 : decode cX11_judgeOrder 115 = .ok (.iload_n 3, 1) := by decide +kernel
theorem dX11_judgeOrder_116 : decode cX11_judgeOrder 116 = .ok (.aload_n 0, 1) := by decide +kernel
theorem dX11_judgeOrder_117 : decode cX11_judgeOrder 117 = .ok (.getfield 36, 3) := by decide +kernel
theorem dX11_judgeOrder_120 : decode cX11_judgeOrder 120 = .ok (.invokevirtual 210, 3) := by decide +kernel
theorem dX11_judgeOrder_123 : decode cX11_judgeOrder 123 = .ok (.ireturn, 1) := by decide +kernel
theorem dX11_judgeOrder_124 : decode cX11_judgeOrder 124 = .ok (.aload_n 0, 1) := by decide +kernel
theorem dX11_judgeOrder_125 : decode cX11_judgeOrder 125 = .ok (.getfield 10, 3) := by decide +kernel
theorem dX11_judgeOrder_128 : decode cX11_judgeOrder 128 = .ok (.iload_n 2, 1) := by decide +kernel
theorem dX11_judgeOrder_129 : decode cX11_judgeOrder 129 = .ok (.invokevirtual 114, 3) := by decide +kernel
theorem dX11_judgeOrder_132 : decode cX11_judgeOrder 132 = .ok (.ireturn, 1) := by decide +kernel
theorem k_X11_judgeOrder : cardV yX11_judgeOrder (Cond.code yX11_judgeOrder cX11_judgeOrder 5 (some .int)) 4 := ⟨⟨qi_X11_judgeOrder, qv_X11_judgeOrder⟩, qc_X11_judgeOrder, qn_X11, by decide +kernel, by decide +kernel, by decide +kernel⟩
set_option maxHeartbeats 4000000 in
set_option maxRecDepth 100000 in
theorem c_X11_judgeOrder (l : Launch) (D : va_G) (g : Nat → ClassId) (q_this q_town q_ahead q_kept q_past q_reason q_orders q_ways q_sheet q_town_houses q_town_halls q_town_posts q_town_blocks q_town_kinds q_town_houses_cells q_town_houses_froms q_town_houses_tos q_town_houses_rings q_town_houses_pranks q_town_halls_rows q_town_halls_firsts q_town_halls_lasts q_town_posts_cells q_town_posts_tolds : Nat) (p1 p2 p3 p4 : Int32) (f_isKept : Int32) (f_town_hour : Int32) (f_town_day : Int32) (f_town_prankHouse : Int32) (f_town_bells : Int32) (f_town_echoes : Int32) (f_town_bellPranks : Int32) (f_town_houses_size : Int32) (a_town_houses_cells : Nat → Int32) (f_town_halls_size : Int32) (a_town_halls_rows : Nat → Int32) (a_town_halls_firsts : Nat → Int32) (a_town_halls_lasts : Nat → Int32) (f_town_posts_size : Int32) (a_town_posts_cells : Nat → Int32) (a_town_posts_tolds : Nat → Int32) (a_town_blocks : Nat → Int32) (a_town_kinds : Nat → Int32) (f_reason_number : Int32) (f_reason_detail : Int32) (o : Int32 × Int32 × Int32) (h : F_X11_judgeOrder p1 p2 p3 p4 f_town_prankHouse f_town_houses_size a_town_houses_cells f_town_halls_size a_town_halls_rows a_town_halls_firsts a_town_halls_lasts f_town_posts_size a_town_posts_cells a_town_posts_tolds a_town_blocks a_town_kinds f_reason_number f_reason_detail = some o) : MW l yX11_judgeOrder (Cond.code yX11_judgeOrder cX11_judgeOrder 5 (some .int)) { frames := 4, cells := 0, slots := 0, locals := 89 } D g [.ref q_this, .int p1, .int p2, .int p3, .int p4] [(q_this, .inr (11, [.ref q_town, .ref q_ahead, .ref q_kept, .int f_isKept, .ref q_past, .ref q_reason, .ref q_orders, .ref q_ways, .ref q_sheet])), (q_town, .inr (9, [.ref q_town_houses, .ref q_town_halls, .ref q_town_posts, .ref q_town_blocks, .ref q_town_kinds, .int f_town_hour, .int f_town_day, .int f_town_prankHouse, .int f_town_bells, .int f_town_echoes, .int f_town_bellPranks])), (q_town_houses, .inr (3, [.int f_town_houses_size, .ref q_town_houses_cells, .ref q_town_houses_froms, .ref q_town_houses_tos, .ref q_town_houses_rings, .ref q_town_houses_pranks])), (q_town_houses_cells, .inl (g 0, 10, .inl a_town_houses_cells)), (q_town_halls, .inr (2, [.int f_town_halls_size, .ref q_town_halls_rows, .ref q_town_halls_firsts, .ref q_town_halls_lasts])), (q_town_halls_rows, .inl (g 0, 4, .inl a_town_halls_rows)), (q_town_halls_firsts, .inl (g 0, 4, .inl a_town_halls_firsts)), (q_town_halls_lasts, .inl (g 0, 4, .inl a_town_halls_lasts)), (q_town_posts, .inr (6, [.int f_town_posts_size, .ref q_town_posts_cells, .ref q_town_posts_tolds])), (q_town_posts_cells, .inl (g 0, 4, .inl a_town_posts_cells)), (q_town_posts_tolds, .inl (g 0, 4, .inl a_town_posts_tolds)), (q_town_blocks, .inl (g 0, 64, .inl a_town_blocks)), (q_town_kinds, .inl (g 0, 4, .inl a_town_kinds)), (q_reason, .inr (7, [.int f_reason_number, .int f_reason_detail]))] (some (.int o.1)) [(q_this, .inr (11, [.ref q_town, .ref q_ahead, .ref q_kept, .int f_isKept, .ref q_past, .ref q_reason, .ref q_orders, .ref q_ways, .ref q_sheet])), (q_town, .inr (9, [.ref q_town_houses, .ref q_town_halls, .ref q_town_posts, .ref q_town_blocks, .ref q_town_kinds, .int f_town_hour, .int f_town_day, .int f_town_prankHouse, .int f_town_bells, .int f_town_echoes, .int f_town_bellPranks])), (q_town_houses, .inr (3, [.int f_town_houses_size, .ref q_town_houses_cells, .ref q_town_houses_froms, .ref q_town_houses_tos, .ref q_town_houses_rings, .ref q_town_houses_pranks])), (q_town_houses_cells, .inl (g 0, 10, .inl a_town_houses_cells)), (q_town_halls, .inr (2, [.int f_town_halls_size, .ref q_town_halls_rows, .ref q_town_halls_firsts, .ref q_town_halls_lasts])), (q_town_halls_rows, .inl (g 0, 4, .inl a_town_halls_rows)), (q_town_halls_firsts, .inl (g 0, 4, .inl a_town_halls_firsts)), (q_town_halls_lasts, .inl (g 0, 4, .inl a_town_halls_lasts)), (q_town_posts, .inr (6, [.int f_town_posts_size, .ref q_town_posts_cells, .ref q_town_posts_tolds])), (q_town_posts_cells, .inl (g 0, 4, .inl a_town_posts_cells)), (q_town_posts_tolds, .inl (g 0, 4, .inl a_town_posts_tolds)), (q_town_blocks, .inl (g 0, 64, .inl a_town_blocks)), (q_town_kinds, .inl (g 0, 4, .inl a_town_kinds)), (q_reason, .inr (7, [.int o.2.1, .int o.2.2]))] := by
  refine z_wr_start (by decide) (Nat.le_of_ble_eq_true rfl) ?_
  intro p e s m args below meth c Q A X hr hQ hA
  refine z_lv (lv' := [(0, .ref q_this), (1, .int p1), (2, .int p2), (3, .int p3), (4, .int p4)]) rfl ?_
  refine z_iload_n X 1 dX11_judgeOrder_0 rfl rfl ?_
  by_cases n1 : p1 = (0 : Int32)
  · have h := brn_t h n1
    refine z_tin (off := 39) 40 X dX11_judgeOrder_1 (sw_eq (k := 0) n1 (by decide)) (by decide) (by decide) (by decide) (by decide) ?_
    refine z_aload_n X 0 dX11_judgeOrder_40 rfl rfl ?_
    refine z_get (q0 := 0) (k := 0) (ci := 11) X IW_P iw_X11 rfl qf_X11_X11_town (by decide) dX11_judgeOrder_41 rfl rfl ?_
    refine z_iload_n X 2 dX11_judgeOrder_44 rfl rfl ?_
    refine z_iload_n X 3 dX11_judgeOrder_45 rfl rfl ?_
    refine z_iload X 4 dX11_judgeOrder_46 rfl ?_
    refine z_aload_n X 0 dX11_judgeOrder_48 rfl rfl ?_
    refine z_get (q0 := 0) (k := 5) (ci := 11) X IW_P iw_X11 rfl qf_X11_X11_reason (by decide) dX11_judgeOrder_49 rfl rfl ?_
    obtain ⟨o2, e3, h⟩ := bnd_p h
    refine z_wrV (rest := []) (q0 := 1) (ci := 9) (ws' := [(q_this, .inr (11, [.ref q_town, .ref q_ahead, .ref q_kept, .int f_isKept, .ref q_past, .ref q_reason, .ref q_orders, .ref q_ways, .ref q_sheet])), (q_town, .inr (9, [.ref q_town_houses, .ref q_town_halls, .ref q_town_posts, .ref q_town_blocks, .ref q_town_kinds, .int f_town_hour, .int f_town_day, .int f_town_prankHouse, .int f_town_bells, .int f_town_echoes, .int f_town_bellPranks])), (q_town_houses, .inr (3, [.int f_town_houses_size, .ref q_town_houses_cells, .ref q_town_houses_froms, .ref q_town_houses_tos, .ref q_town_houses_rings, .ref q_town_houses_pranks])), (q_town_houses_cells, .inl (g 0, 10, .inl a_town_houses_cells)), (q_town_halls, .inr (2, [.int f_town_halls_size, .ref q_town_halls_rows, .ref q_town_halls_firsts, .ref q_town_halls_lasts])), (q_town_halls_rows, .inl (g 0, 4, .inl a_town_halls_rows)), (q_town_halls_firsts, .inl (g 0, 4, .inl a_town_halls_firsts)), (q_town_halls_lasts, .inl (g 0, 4, .inl a_town_halls_lasts)), (q_town_posts, .inr (6, [.int f_town_posts_size, .ref q_town_posts_cells, .ref q_town_posts_tolds])), (q_town_posts_cells, .inl (g 0, 4, .inl a_town_posts_cells)), (q_town_posts_tolds, .inl (g 0, 4, .inl a_town_posts_tolds)), (q_town_blocks, .inl (g 0, 64, .inl a_town_blocks)), (q_town_kinds, .inl (g 0, 4, .inl a_town_kinds)), (q_reason, .inr (7, [.int o2.2.1, .int o2.2.2]))]) (wr := [(q_this, .inr (11, [.ref q_town, .ref q_ahead, .ref q_kept, .int f_isKept, .ref q_past, .ref q_reason, .ref q_orders, .ref q_ways, .ref q_sheet])), (q_town_halls, .inr (2, [.int f_town_halls_size, .ref q_town_halls_rows, .ref q_town_halls_firsts, .ref q_town_halls_lasts])), (q_town_halls_rows, .inl (g 0, 4, .inl a_town_halls_rows)), (q_town_halls_firsts, .inl (g 0, 4, .inl a_town_halls_firsts)), (q_town_halls_lasts, .inl (g 0, 4, .inl a_town_halls_lasts)), (q_town_posts, .inr (6, [.int f_town_posts_size, .ref q_town_posts_cells, .ref q_town_posts_tolds])), (q_town_posts_cells, .inl (g 0, 4, .inl a_town_posts_cells)), (q_town_posts_tolds, .inl (g 0, 4, .inl a_town_posts_tolds)), (q_town_kinds, .inl (g 0, 4, .inl a_town_kinds))]) (as := [q_this, q_town, q_town_houses, q_town_houses_cells, q_town_halls, q_town_halls_rows, q_town_halls_firsts, q_town_halls_lasts, q_town_posts, q_town_posts_cells, q_town_posts_tolds, q_town_blocks, q_town_kinds, q_reason]) X k_X9_judgeHouse (c_X9_judgeHouse l D g q_town q_town_houses q_town_halls q_town_posts q_town_blocks q_town_kinds q_town_houses_cells q_town_houses_froms q_town_houses_tos q_town_houses_rings q_town_houses_pranks q_reason p2 p3 p4 f_town_hour f_town_day f_town_prankHouse f_town_bells f_town_echoes f_town_bellPranks f_town_houses_size a_town_houses_cells a_town_blocks f_reason_number f_reason_detail o2 e3) ql_X11_X9_judgeHouse dX11_judgeOrder_52 [1, 2, 3, 11, 13] [0, 4, 5, 6, 7, 8, 9, 10, 12] ⟨rfl, rfl, rfl, rfl, rfl, rfl, rfl, rfl⟩ rfl rfl rfl rfl rfl ⟨Nat.le_of_ble_eq_true rfl, Nat.le_of_ble_eq_true rfl, rfl, rfl, Nat.le_of_ble_eq_true rfl, Nat.le_of_ble_eq_true rfl⟩ (Nat.le_of_ble_eq_true rfl) ?_
    cases h
    exact z_iretW X hQ hA hr dX11_judgeOrder_55
  have h := brn_f h n1
  by_cases n4 : p1 = (1 : Int32)
  · have h := brn_t h n4
    refine z_tin (off := 55) 56 X dX11_judgeOrder_1 (sw_eq (k := 1) n4 (by decide)) (by decide) (by decide) (by decide) (by decide) ?_
    refine z_aload_n X 0 dX11_judgeOrder_56 rfl rfl ?_
    refine z_get (q0 := 0) (k := 0) (ci := 11) X IW_P iw_X11 rfl qf_X11_X11_town (by decide) dX11_judgeOrder_57 rfl rfl ?_
    refine z_iload_n X 2 dX11_judgeOrder_60 rfl rfl ?_
    refine z_aload_n X 0 dX11_judgeOrder_61 rfl rfl ?_
    refine z_get (q0 := 0) (k := 5) (ci := 11) X IW_P iw_X11 rfl qf_X11_X11_reason (by decide) dX11_judgeOrder_62 rfl rfl ?_
    obtain ⟨o5, e6, h⟩ := bnd_p h
    refine z_wrV (rest := []) (q0 := 1) (ci := 9) (ws' := [(q_this, .inr (11, [.ref q_town, .ref q_ahead, .ref q_kept, .int f_isKept, .ref q_past, .ref q_reason, .ref q_orders, .ref q_ways, .ref q_sheet])), (q_town, .inr (9, [.ref q_town_houses, .ref q_town_halls, .ref q_town_posts, .ref q_town_blocks, .ref q_town_kinds, .int f_town_hour, .int f_town_day, .int f_town_prankHouse, .int f_town_bells, .int f_town_echoes, .int f_town_bellPranks])), (q_town_houses, .inr (3, [.int f_town_houses_size, .ref q_town_houses_cells, .ref q_town_houses_froms, .ref q_town_houses_tos, .ref q_town_houses_rings, .ref q_town_houses_pranks])), (q_town_houses_cells, .inl (g 0, 10, .inl a_town_houses_cells)), (q_town_halls, .inr (2, [.int f_town_halls_size, .ref q_town_halls_rows, .ref q_town_halls_firsts, .ref q_town_halls_lasts])), (q_town_halls_rows, .inl (g 0, 4, .inl a_town_halls_rows)), (q_town_halls_firsts, .inl (g 0, 4, .inl a_town_halls_firsts)), (q_town_halls_lasts, .inl (g 0, 4, .inl a_town_halls_lasts)), (q_town_posts, .inr (6, [.int f_town_posts_size, .ref q_town_posts_cells, .ref q_town_posts_tolds])), (q_town_posts_cells, .inl (g 0, 4, .inl a_town_posts_cells)), (q_town_posts_tolds, .inl (g 0, 4, .inl a_town_posts_tolds)), (q_town_blocks, .inl (g 0, 64, .inl a_town_blocks)), (q_town_kinds, .inl (g 0, 4, .inl a_town_kinds)), (q_reason, .inr (7, [.int o5.2.1, .int o5.2.2]))]) (wr := [(q_this, .inr (11, [.ref q_town, .ref q_ahead, .ref q_kept, .int f_isKept, .ref q_past, .ref q_reason, .ref q_orders, .ref q_ways, .ref q_sheet])), (q_town_halls, .inr (2, [.int f_town_halls_size, .ref q_town_halls_rows, .ref q_town_halls_firsts, .ref q_town_halls_lasts])), (q_town_halls_rows, .inl (g 0, 4, .inl a_town_halls_rows)), (q_town_halls_firsts, .inl (g 0, 4, .inl a_town_halls_firsts)), (q_town_halls_lasts, .inl (g 0, 4, .inl a_town_halls_lasts)), (q_town_posts, .inr (6, [.int f_town_posts_size, .ref q_town_posts_cells, .ref q_town_posts_tolds])), (q_town_posts_cells, .inl (g 0, 4, .inl a_town_posts_cells)), (q_town_posts_tolds, .inl (g 0, 4, .inl a_town_posts_tolds)), (q_town_blocks, .inl (g 0, 64, .inl a_town_blocks)), (q_town_kinds, .inl (g 0, 4, .inl a_town_kinds))]) (as := [q_this, q_town, q_town_houses, q_town_houses_cells, q_town_halls, q_town_halls_rows, q_town_halls_firsts, q_town_halls_lasts, q_town_posts, q_town_posts_cells, q_town_posts_tolds, q_town_blocks, q_town_kinds, q_reason]) X k_X9_judgeBlock (c_X9_judgeBlock l D g q_town q_town_houses q_town_halls q_town_posts q_town_blocks q_town_kinds q_town_houses_cells q_town_houses_froms q_town_houses_tos q_town_houses_rings q_town_houses_pranks q_reason p2 f_town_hour f_town_day f_town_prankHouse f_town_bells f_town_echoes f_town_bellPranks f_town_houses_size a_town_houses_cells f_reason_number f_reason_detail o5 e6) ql_X11_X9_judgeBlock dX11_judgeOrder_65 [1, 2, 3, 13] [0, 4, 5, 6, 7, 8, 9, 10, 11, 12] ⟨rfl, rfl, rfl, rfl, rfl, rfl, rfl, rfl⟩ rfl rfl rfl rfl rfl ⟨Nat.le_of_ble_eq_true rfl, Nat.le_of_ble_eq_true rfl, rfl, rfl, Nat.le_of_ble_eq_true rfl, Nat.le_of_ble_eq_true rfl⟩ (Nat.le_of_ble_eq_true rfl) ?_
    cases h
    exact z_iretW X hQ hA hr dX11_judgeOrder_68
  have h := brn_f h n4
  by_cases n7 : p1 = (2 : Int32)
  · have h := brn_t h n7
    refine z_tin (off := 68) 69 X dX11_judgeOrder_1 (sw_eq (k := 2) n7 (by decide)) (by decide) (by decide) (by decide) (by decide) ?_
    refine z_aload_n X 0 dX11_judgeOrder_69 rfl rfl ?_
    refine z_get (q0 := 0) (k := 0) (ci := 11) X IW_P iw_X11 rfl qf_X11_X11_town (by decide) dX11_judgeOrder_70 rfl rfl ?_
    refine z_iload_n X 2 dX11_judgeOrder_73 rfl rfl ?_
    refine z_iload_n X 3 dX11_judgeOrder_74 rfl rfl ?_
    refine z_iload X 4 dX11_judgeOrder_75 rfl ?_
    refine z_aload_n X 0 dX11_judgeOrder_77 rfl rfl ?_
    refine z_get (q0 := 0) (k := 5) (ci := 11) X IW_P iw_X11 rfl qf_X11_X11_reason (by decide) dX11_judgeOrder_78 rfl rfl ?_
    obtain ⟨o8, e9, h⟩ := bnd_p h
    refine z_wrV (rest := []) (q0 := 1) (ci := 9) (ws' := [(q_this, .inr (11, [.ref q_town, .ref q_ahead, .ref q_kept, .int f_isKept, .ref q_past, .ref q_reason, .ref q_orders, .ref q_ways, .ref q_sheet])), (q_town, .inr (9, [.ref q_town_houses, .ref q_town_halls, .ref q_town_posts, .ref q_town_blocks, .ref q_town_kinds, .int f_town_hour, .int f_town_day, .int f_town_prankHouse, .int f_town_bells, .int f_town_echoes, .int f_town_bellPranks])), (q_town_houses, .inr (3, [.int f_town_houses_size, .ref q_town_houses_cells, .ref q_town_houses_froms, .ref q_town_houses_tos, .ref q_town_houses_rings, .ref q_town_houses_pranks])), (q_town_houses_cells, .inl (g 0, 10, .inl a_town_houses_cells)), (q_town_halls, .inr (2, [.int f_town_halls_size, .ref q_town_halls_rows, .ref q_town_halls_firsts, .ref q_town_halls_lasts])), (q_town_halls_rows, .inl (g 0, 4, .inl a_town_halls_rows)), (q_town_halls_firsts, .inl (g 0, 4, .inl a_town_halls_firsts)), (q_town_halls_lasts, .inl (g 0, 4, .inl a_town_halls_lasts)), (q_town_posts, .inr (6, [.int f_town_posts_size, .ref q_town_posts_cells, .ref q_town_posts_tolds])), (q_town_posts_cells, .inl (g 0, 4, .inl a_town_posts_cells)), (q_town_posts_tolds, .inl (g 0, 4, .inl a_town_posts_tolds)), (q_town_blocks, .inl (g 0, 64, .inl a_town_blocks)), (q_town_kinds, .inl (g 0, 4, .inl a_town_kinds)), (q_reason, .inr (7, [.int o8.2.1, .int o8.2.2]))]) (wr := [(q_this, .inr (11, [.ref q_town, .ref q_ahead, .ref q_kept, .int f_isKept, .ref q_past, .ref q_reason, .ref q_orders, .ref q_ways, .ref q_sheet])), (q_town_houses, .inr (3, [.int f_town_houses_size, .ref q_town_houses_cells, .ref q_town_houses_froms, .ref q_town_houses_tos, .ref q_town_houses_rings, .ref q_town_houses_pranks])), (q_town_houses_cells, .inl (g 0, 10, .inl a_town_houses_cells)), (q_town_posts, .inr (6, [.int f_town_posts_size, .ref q_town_posts_cells, .ref q_town_posts_tolds])), (q_town_posts_cells, .inl (g 0, 4, .inl a_town_posts_cells)), (q_town_posts_tolds, .inl (g 0, 4, .inl a_town_posts_tolds)), (q_town_blocks, .inl (g 0, 64, .inl a_town_blocks)), (q_town_kinds, .inl (g 0, 4, .inl a_town_kinds))]) (as := [q_this, q_town, q_town_houses, q_town_houses_cells, q_town_halls, q_town_halls_rows, q_town_halls_firsts, q_town_halls_lasts, q_town_posts, q_town_posts_cells, q_town_posts_tolds, q_town_blocks, q_town_kinds, q_reason]) X k_X9_judgeHall (c_X9_judgeHall l D g q_town q_town_houses q_town_halls q_town_posts q_town_blocks q_town_kinds q_town_halls_rows q_town_halls_firsts q_town_halls_lasts q_reason p2 p3 p4 f_town_hour f_town_day f_town_prankHouse f_town_bells f_town_echoes f_town_bellPranks f_town_halls_size a_town_halls_rows a_town_halls_firsts a_town_halls_lasts f_reason_number f_reason_detail o8 e9) ql_X11_X9_judgeHall dX11_judgeOrder_81 [1, 4, 5, 6, 7, 13] [0, 2, 3, 8, 9, 10, 11, 12] ⟨rfl, rfl, rfl, rfl, rfl, rfl, rfl, rfl⟩ rfl rfl rfl rfl rfl ⟨Nat.le_of_ble_eq_true rfl, Nat.le_of_ble_eq_true rfl, rfl, rfl, Nat.le_of_ble_eq_true rfl, Nat.le_of_ble_eq_true rfl⟩ (Nat.le_of_ble_eq_true rfl) ?_
    cases h
    exact z_iretW X hQ hA hr dX11_judgeOrder_84
  have h := brn_f h n7
  by_cases n10 : p1 = (3 : Int32)
  · have h := brn_t h n10
    refine z_tin (off := 84) 85 X dX11_judgeOrder_1 (sw_eq (k := 3) n10 (by decide)) (by decide) (by decide) (by decide) (by decide) ?_
    refine z_aload_n X 0 dX11_judgeOrder_85 rfl rfl ?_
    refine z_get (q0 := 0) (k := 0) (ci := 11) X IW_P iw_X11 rfl qf_X11_X11_town (by decide) dX11_judgeOrder_86 rfl rfl ?_
    refine z_iload_n X 2 dX11_judgeOrder_89 rfl rfl ?_
    refine z_iload_n X 3 dX11_judgeOrder_90 rfl rfl ?_
    refine z_iload X 4 dX11_judgeOrder_91 rfl ?_
    obtain ⟨o11, e12, h⟩ := bnd_p h
    refine z_rdV (rest := []) (q0 := 1) (ci := 9) X IW_P k_X9_judgeRing (c_X9_judgeRing l D g q_town q_town_houses q_town_halls q_town_posts q_town_blocks q_town_kinds q_town_houses_cells q_town_houses_froms q_town_houses_tos q_town_houses_rings q_town_houses_pranks p2 p3 p4 f_town_hour f_town_day f_town_prankHouse f_town_bells f_town_echoes f_town_bellPranks f_town_houses_size o11 e12) ql_X11_X9_judgeRing dX11_judgeOrder_93 [1, 2] rfl rfl rfl rfl rfl rfl ⟨Nat.le_of_ble_eq_true rfl, Nat.le_of_ble_eq_true rfl, rfl, rfl, Nat.le_of_ble_eq_true rfl, Nat.le_of_ble_eq_true rfl⟩ (Nat.le_of_ble_eq_true rfl) ?_
    cases h
    exact z_iretW X hQ hA hr dX11_judgeOrder_96
  have h := brn_f h n10
  by_cases n13 : p1 = (4 : Int32)
  · have h := brn_t h n13
    refine z_tin (off := 96) 97 X dX11_judgeOrder_1 (sw_eq (k := 4) n13 (by decide)) (by decide) (by decide) (by decide) (by decide) ?_
    refine z_aload_n X 0 dX11_judgeOrder_97 rfl rfl ?_
    refine z_get (q0 := 0) (k := 0) (ci := 11) X IW_P iw_X11 rfl qf_X11_X11_town (by decide) dX11_judgeOrder_98 rfl rfl ?_
    refine z_iload_n X 2 dX11_judgeOrder_101 rfl rfl ?_
    refine z_aload_n X 0 dX11_judgeOrder_102 rfl rfl ?_
    refine z_get (q0 := 0) (k := 5) (ci := 11) X IW_P iw_X11 rfl qf_X11_X11_reason (by decide) dX11_judgeOrder_103 rfl rfl ?_
    obtain ⟨o14, e15, h⟩ := bnd_p h
    refine z_wrV (rest := []) (q0 := 1) (ci := 9) (ws' := [(q_this, .inr (11, [.ref q_town, .ref q_ahead, .ref q_kept, .int f_isKept, .ref q_past, .ref q_reason, .ref q_orders, .ref q_ways, .ref q_sheet])), (q_town, .inr (9, [.ref q_town_houses, .ref q_town_halls, .ref q_town_posts, .ref q_town_blocks, .ref q_town_kinds, .int f_town_hour, .int f_town_day, .int f_town_prankHouse, .int f_town_bells, .int f_town_echoes, .int f_town_bellPranks])), (q_town_houses, .inr (3, [.int f_town_houses_size, .ref q_town_houses_cells, .ref q_town_houses_froms, .ref q_town_houses_tos, .ref q_town_houses_rings, .ref q_town_houses_pranks])), (q_town_houses_cells, .inl (g 0, 10, .inl a_town_houses_cells)), (q_town_halls, .inr (2, [.int f_town_halls_size, .ref q_town_halls_rows, .ref q_town_halls_firsts, .ref q_town_halls_lasts])), (q_town_halls_rows, .inl (g 0, 4, .inl a_town_halls_rows)), (q_town_halls_firsts, .inl (g 0, 4, .inl a_town_halls_firsts)), (q_town_halls_lasts, .inl (g 0, 4, .inl a_town_halls_lasts)), (q_town_posts, .inr (6, [.int f_town_posts_size, .ref q_town_posts_cells, .ref q_town_posts_tolds])), (q_town_posts_cells, .inl (g 0, 4, .inl a_town_posts_cells)), (q_town_posts_tolds, .inl (g 0, 4, .inl a_town_posts_tolds)), (q_town_blocks, .inl (g 0, 64, .inl a_town_blocks)), (q_town_kinds, .inl (g 0, 4, .inl a_town_kinds)), (q_reason, .inr (7, [.int o14.2.1, .int o14.2.2]))]) (wr := [(q_this, .inr (11, [.ref q_town, .ref q_ahead, .ref q_kept, .int f_isKept, .ref q_past, .ref q_reason, .ref q_orders, .ref q_ways, .ref q_sheet])), (q_town_houses, .inr (3, [.int f_town_houses_size, .ref q_town_houses_cells, .ref q_town_houses_froms, .ref q_town_houses_tos, .ref q_town_houses_rings, .ref q_town_houses_pranks])), (q_town_houses_cells, .inl (g 0, 10, .inl a_town_houses_cells)), (q_town_halls, .inr (2, [.int f_town_halls_size, .ref q_town_halls_rows, .ref q_town_halls_firsts, .ref q_town_halls_lasts])), (q_town_halls_rows, .inl (g 0, 4, .inl a_town_halls_rows)), (q_town_halls_firsts, .inl (g 0, 4, .inl a_town_halls_firsts)), (q_town_halls_lasts, .inl (g 0, 4, .inl a_town_halls_lasts)), (q_town_posts_tolds, .inl (g 0, 4, .inl a_town_posts_tolds)), (q_town_kinds, .inl (g 0, 4, .inl a_town_kinds))]) (as := [q_this, q_town, q_town_houses, q_town_houses_cells, q_town_halls, q_town_halls_rows, q_town_halls_firsts, q_town_halls_lasts, q_town_posts, q_town_posts_cells, q_town_posts_tolds, q_town_blocks, q_town_kinds, q_reason]) X k_X9_judgePost (c_X9_judgePost l D g q_town q_town_houses q_town_halls q_town_posts q_town_blocks q_town_kinds q_town_posts_cells q_town_posts_tolds q_reason p2 f_town_hour f_town_day f_town_prankHouse f_town_bells f_town_echoes f_town_bellPranks f_town_posts_size a_town_posts_cells a_town_blocks f_reason_number f_reason_detail o14 e15) ql_X11_X9_judgePost dX11_judgeOrder_106 [1, 8, 9, 11, 13] [0, 2, 3, 4, 5, 6, 7, 10, 12] ⟨rfl, rfl, rfl, rfl, rfl, rfl, rfl, rfl⟩ rfl rfl rfl rfl rfl ⟨Nat.le_of_ble_eq_true rfl, Nat.le_of_ble_eq_true rfl, rfl, rfl, Nat.le_of_ble_eq_true rfl, Nat.le_of_ble_eq_true rfl⟩ (Nat.le_of_ble_eq_true rfl) ?_
    cases h
    exact z_iretW X hQ hA hr dX11_judgeOrder_109
  have h := brn_f h n13
  by_cases n16 : p1 = (5 : Int32)
  · have h := brn_t h n16
    refine z_tin (off := 109) 110 X dX11_judgeOrder_1 (sw_eq (k := 5) n16 (by decide)) (by decide) (by decide) (by decide) (by decide) ?_
    refine z_aload_n X 0 dX11_judgeOrder_110 rfl rfl ?_
    refine z_get (q0 := 0) (k := 0) (ci := 11) X IW_P iw_X11 rfl qf_X11_X11_town (by decide) dX11_judgeOrder_111 rfl rfl ?_
    refine z_iload_n X 2 dX11_judgeOrder_114 rfl rfl ?_
    refine z_iload_n X 3 dX11_judgeOrder_115 rfl rfl ?_
    refine z_aload_n X 0 dX11_judgeOrder_116 rfl rfl ?_
    refine z_get (q0 := 0) (k := 5) (ci := 11) X IW_P iw_X11 rfl qf_X11_X11_reason (by decide) dX11_judgeOrder_117 rfl rfl ?_
    obtain ⟨o17, e18, h⟩ := bnd_p h
    refine z_wrV (rest := []) (q0 := 1) (ci := 9) (ws' := [(q_this, .inr (11, [.ref q_town, .ref q_ahead, .ref q_kept, .int f_isKept, .ref q_past, .ref q_reason, .ref q_orders, .ref q_ways, .ref q_sheet])), (q_town, .inr (9, [.ref q_town_houses, .ref q_town_halls, .ref q_town_posts, .ref q_town_blocks, .ref q_town_kinds, .int f_town_hour, .int f_town_day, .int f_town_prankHouse, .int f_town_bells, .int f_town_echoes, .int f_town_bellPranks])), (q_town_houses, .inr (3, [.int f_town_houses_size, .ref q_town_houses_cells, .ref q_town_houses_froms, .ref q_town_houses_tos, .ref q_town_houses_rings, .ref q_town_houses_pranks])), (q_town_houses_cells, .inl (g 0, 10, .inl a_town_houses_cells)), (q_town_halls, .inr (2, [.int f_town_halls_size, .ref q_town_halls_rows, .ref q_town_halls_firsts, .ref q_town_halls_lasts])), (q_town_halls_rows, .inl (g 0, 4, .inl a_town_halls_rows)), (q_town_halls_firsts, .inl (g 0, 4, .inl a_town_halls_firsts)), (q_town_halls_lasts, .inl (g 0, 4, .inl a_town_halls_lasts)), (q_town_posts, .inr (6, [.int f_town_posts_size, .ref q_town_posts_cells, .ref q_town_posts_tolds])), (q_town_posts_cells, .inl (g 0, 4, .inl a_town_posts_cells)), (q_town_posts_tolds, .inl (g 0, 4, .inl a_town_posts_tolds)), (q_town_blocks, .inl (g 0, 64, .inl a_town_blocks)), (q_town_kinds, .inl (g 0, 4, .inl a_town_kinds)), (q_reason, .inr (7, [.int o17.2.1, .int o17.2.2]))]) (wr := [(q_this, .inr (11, [.ref q_town, .ref q_ahead, .ref q_kept, .int f_isKept, .ref q_past, .ref q_reason, .ref q_orders, .ref q_ways, .ref q_sheet])), (q_town_houses, .inr (3, [.int f_town_houses_size, .ref q_town_houses_cells, .ref q_town_houses_froms, .ref q_town_houses_tos, .ref q_town_houses_rings, .ref q_town_houses_pranks])), (q_town_houses_cells, .inl (g 0, 10, .inl a_town_houses_cells)), (q_town_halls, .inr (2, [.int f_town_halls_size, .ref q_town_halls_rows, .ref q_town_halls_firsts, .ref q_town_halls_lasts])), (q_town_halls_rows, .inl (g 0, 4, .inl a_town_halls_rows)), (q_town_halls_firsts, .inl (g 0, 4, .inl a_town_halls_firsts)), (q_town_halls_lasts, .inl (g 0, 4, .inl a_town_halls_lasts)), (q_town_posts_cells, .inl (g 0, 4, .inl a_town_posts_cells)), (q_town_blocks, .inl (g 0, 64, .inl a_town_blocks))]) (as := [q_this, q_town, q_town_houses, q_town_houses_cells, q_town_halls, q_town_halls_rows, q_town_halls_firsts, q_town_halls_lasts, q_town_posts, q_town_posts_cells, q_town_posts_tolds, q_town_blocks, q_town_kinds, q_reason]) X k_X9_judgeTell (c_X9_judgeTell l D g q_town q_town_houses q_town_halls q_town_posts q_town_blocks q_town_kinds q_town_posts_cells q_town_posts_tolds q_reason p2 p3 f_town_hour f_town_day f_town_prankHouse f_town_bells f_town_echoes f_town_bellPranks f_town_posts_size a_town_posts_tolds a_town_kinds f_reason_number f_reason_detail o17 e18) ql_X11_X9_judgeTell dX11_judgeOrder_120 [1, 8, 10, 12, 13] [0, 2, 3, 4, 5, 6, 7, 9, 11] ⟨rfl, rfl, rfl, rfl, rfl, rfl, rfl, rfl⟩ rfl rfl rfl rfl rfl ⟨Nat.le_of_ble_eq_true rfl, Nat.le_of_ble_eq_true rfl, rfl, rfl, Nat.le_of_ble_eq_true rfl, Nat.le_of_ble_eq_true rfl⟩ (Nat.le_of_ble_eq_true rfl) ?_
    cases h
    exact z_iretW X hQ hA hr dX11_judgeOrder_123
  have h := brn_f h n16
  refine z_tdef 124 [0, 1, 2, 3, 4, 5] X dX11_judgeOrder_1 (by decide) (by decide) (List.forall_mem_cons.mpr ⟨sw_ne n1 (by decide), List.forall_mem_cons.mpr ⟨sw_ne n4 (by decide), List.forall_mem_cons.mpr ⟨sw_ne n7 (by decide), List.forall_mem_cons.mpr ⟨sw_ne n10 (by decide), List.forall_mem_cons.mpr ⟨sw_ne n13 (by decide), List.forall_mem_cons.mpr ⟨sw_ne n16 (by decide), fun _ hk => absurd hk List.not_mem_nil⟩⟩⟩⟩⟩⟩) (by decide) ?_
  refine z_aload_n X 0 dX11_judgeOrder_124 rfl rfl ?_
  refine z_get (q0 := 0) (k := 0) (ci := 11) X IW_P iw_X11 rfl qf_X11_X11_town (by decide) dX11_judgeOrder_125 rfl rfl ?_
  refine z_iload_n X 2 dX11_judgeOrder_128 rfl rfl ?_
  obtain ⟨o19, e20, h⟩ := bnd_p h
  refine z_rdV (rest := []) (q0 := 1) (ci := 9) X IW_P k_X9_judgeHours (c_X9_judgeHours l D g q_town p2 o19 e20) ql_X11_X9_judgeHours dX11_judgeOrder_129 [] rfl rfl rfl rfl rfl rfl ⟨Nat.le_of_ble_eq_true rfl, Nat.le_of_ble_eq_true rfl, rfl, rfl, Nat.le_of_ble_eq_true rfl, Nat.le_of_ble_eq_true rfl⟩ (Nat.le_of_ble_eq_true rfl) ?_
  cases h
  exact z_iretW X hQ hA hr dX11_judgeOrder_132

def F_X11_doOrder (p1 : Int32) (p2 : Int32) (p3 : Int32) (p4 : Int32) (f_town_hour : Int32) (f_town_day : Int32) (f_town_prankHouse : Int32) (f_town_bells : Int32) (f_town_echoes : Int32) (f_town_bellPranks : Int32) (f_town_houses_size : Int32) (a_town_houses_cells : Nat → Int32) (a_town_houses_froms : Nat → Int32) (a_town_houses_tos : Nat → Int32) (a_town_houses_rings : Nat → Int32) (a_town_houses_pranks : Nat → Int32) (f_town_halls_size : Int32) (a_town_halls_rows : Nat → Int32) (a_town_halls_firsts : Nat → Int32) (a_town_halls_lasts : Nat → Int32) (f_town_posts_size : Int32) (a_town_posts_cells : Nat → Int32) (a_town_posts_tolds : Nat → Int32) (a_town_blocks : Nat → Int32) (a_town_kinds : Nat → Int32) : Option (Int32 × Int32 × Int32 × Int32 × Int32 × Int32 × Int32 × (Nat → Int32) × (Nat → Int32) × (Nat → Int32) × (Nat → Int32) × (Nat → Int32) × Int32 × (Nat → Int32) × (Nat → Int32) × (Nat → Int32) × Int32 × (Nat → Int32) × (Nat → Int32) × (Nat → Int32) × (Nat → Int32)) :=
  brn (p1 = (0 : Int32)) (bnd (F_X2_add p2 p3 p4 f_town_houses_size a_town_houses_cells a_town_houses_froms a_town_houses_tos a_town_houses_rings a_town_houses_pranks) (fun o2 => some (f_town_hour, f_town_day, f_town_prankHouse, f_town_bells, f_town_echoes, f_town_bellPranks, o2.2.1, o2.2.2.1, o2.2.2.2.1, o2.2.2.2.2.1, o2.2.2.2.2.2.1, o2.2.2.2.2.2.2, f_town_halls_size, a_town_halls_rows, a_town_halls_firsts, a_town_halls_lasts, f_town_posts_size, a_town_posts_cells, a_town_posts_tolds, a_town_blocks, a_town_kinds))) (brn (p1 = (1 : Int32)) (bnd (F_X9_turnBlock p2 a_town_blocks) (fun o5 => some (f_town_hour, f_town_day, f_town_prankHouse, f_town_bells, f_town_echoes, f_town_bellPranks, f_town_houses_size, a_town_houses_cells, a_town_houses_froms, a_town_houses_tos, a_town_houses_rings, a_town_houses_pranks, f_town_halls_size, a_town_halls_rows, a_town_halls_firsts, a_town_halls_lasts, f_town_posts_size, a_town_posts_cells, a_town_posts_tolds, o5.2, a_town_kinds))) (brn (p1 = (2 : Int32)) (bnd (F_X1_add p2 p3 p4 f_town_halls_size a_town_halls_rows a_town_halls_firsts a_town_halls_lasts) (fun o8 => some (f_town_hour, f_town_day, f_town_prankHouse, f_town_bells, f_town_echoes, f_town_bellPranks, f_town_houses_size, a_town_houses_cells, a_town_houses_froms, a_town_houses_tos, a_town_houses_rings, a_town_houses_pranks, o8.2.1, o8.2.2.1, o8.2.2.2.1, o8.2.2.2.2, f_town_posts_size, a_town_posts_cells, a_town_posts_tolds, a_town_blocks, a_town_kinds))) (brn (p1 = (3 : Int32)) (bnd (F_X9_ringAt p2 p3 p4 f_town_hour f_town_houses_size a_town_houses_cells a_town_houses_froms a_town_houses_tos f_town_halls_size a_town_halls_rows a_town_halls_firsts a_town_halls_lasts f_town_posts_size f_town_prankHouse f_town_bells f_town_echoes f_town_bellPranks a_town_houses_rings a_town_houses_pranks a_town_posts_tolds a_town_kinds) (fun o11 => some (f_town_hour, f_town_day, o11.2.1, o11.2.2.1, o11.2.2.2.1, o11.2.2.2.2.1, f_town_houses_size, a_town_houses_cells, a_town_houses_froms, a_town_houses_tos, o11.2.2.2.2.2.1, o11.2.2.2.2.2.2.1, f_town_halls_size, a_town_halls_rows, a_town_halls_firsts, a_town_halls_lasts, f_town_posts_size, a_town_posts_cells, o11.2.2.2.2.2.2.2.1, a_town_blocks, o11.2.2.2.2.2.2.2.2))) (brn (p1 = (4 : Int32)) (bnd (F_X5_add p2 f_town_posts_size a_town_posts_cells a_town_posts_tolds) (fun o14 => some (f_town_hour, f_town_day, f_town_prankHouse, f_town_bells, f_town_echoes, f_town_bellPranks, f_town_houses_size, a_town_houses_cells, a_town_houses_froms, a_town_houses_tos, a_town_houses_rings, a_town_houses_pranks, f_town_halls_size, a_town_halls_rows, a_town_halls_firsts, a_town_halls_lasts, o14.2.1, o14.2.2.1, o14.2.2.2, a_town_blocks, a_town_kinds))) (brn (p1 = (5 : Int32)) (bnd (F_X5_setTold p2 p3 a_town_posts_tolds) (fun o17 => some (f_town_hour, f_town_day, f_town_prankHouse, f_town_bells, f_town_echoes, f_town_bellPranks, f_town_houses_size, a_town_houses_cells, a_town_houses_froms, a_town_houses_tos, a_town_houses_rings, a_town_houses_pranks, f_town_halls_size, a_town_halls_rows, a_town_halls_firsts, a_town_halls_lasts, f_town_posts_size, a_town_posts_cells, o17, a_town_blocks, a_town_kinds))) (bnd (F_X9_letPass p2 f_town_hour f_town_day) (fun o19 => some (o19.2.1, o19.2.2, f_town_prankHouse, f_town_bells, f_town_echoes, f_town_bellPranks, f_town_houses_size, a_town_houses_cells, a_town_houses_froms, a_town_houses_tos, a_town_houses_rings, a_town_houses_pranks, f_town_halls_size, a_town_halls_rows, a_town_halls_firsts, a_town_halls_lasts, f_town_posts_size, a_town_posts_cells, a_town_posts_tolds, a_town_blocks, a_town_kinds))))))))
theorem dX11_doOrder_0 : decode cX11_doOrder 0 = .ok (.iload_n 1, 1) := by decide +kernel
theorem dX11_doOrder_1 : decode cX11_doOrder 1 = .ok (.tableswitch 132 0 5 #[39, 57, 69, 87, 102, 117], 39) := by decide +kernel
theorem dX11_doOrder_40 : decode cX11_doOrder 40 = .ok (.aload_n 0, 1) := by decide +kernel
theorem dX11_doOrder_41 : decode cX11_doOrder 41 = .ok (.getfield 10, 3) := by decide +kernel
theorem dX11_doOrder_44 : decode cX11_doOrder 44 = .ok (.getfield 73, 3) := by decide +kernel
theorem dX11_doOrder_47 : decode cX11_doOrder 47 = .ok (.iload_n 2, 1) := by decide +kernel
theorem dX11_doOrder_48 : decode cX11_doOrder 48 = .ok (.iload_n 3, 1) := by decide +kernel
theorem dX11_doOrder_49 : decode cX11_doOrder 49 = .ok (.iload 4, 2) := by decide +kernel
theorem dX11_doOrder_51 : decode cX11_doOrder 51 = .ok (.invokevirtual 77, 3) := by decide +kernel
theorem dX11_doOrder_54 : decode cX11_doOrder 54 = .ok (.pop, 1) := by decide +kernel
theorem dX11_doOrder_55 : decode cX11_doOrder 55 = .ok (.goto 87, 3) := by decide +kernel
theorem dX11_doOrder_58 : decode cX11_doOrder 58 = .ok (.aload_n 0, 1) := by decide +kernel
theorem dX11_doOrder_59 : decode cX11_doOrder 59 = .ok (.getfield 10, 3) := by decide +kernel
theorem dX11_doOrder_62 : decode cX11_doOrder 62 = .ok (.iload_n 2, 1) := by decide +kernel
theorem dX11_doOrder_63 : decode cX11_doOrder 63 = .ok (.invokevirtual 99, 3) := by decide +kernel
theorem dX11_doOrder_66 : decode cX11_doOrder 66 = .ok (.pop, 1) := by decide +kernel
theorem dX11_doOrder_67 : decode cX11_doOrder 67 = .ok (.goto 75, 3) := by decide +kernel
theorem dX11_doOrder_70 : decode cX11_doOrder 70 = .ok (.aload_n 0, 1) := by decide +kernel
theorem dX11_doOrder_71 : decode cX11_doOrder 71 = .ok (.getfield 10, 3) := by decide +kernel
theorem dX11_doOrder_74 : decode cX11_doOrder 74 = .ok (.getfield 105, 3) := by decide +kernel
theorem dX11_doOrder_77 : decode cX11_doOrder 77 = .ok (.iload_n 2, 1) := by decide +kernel
theorem dX11_doOrder_78 : decode cX11_doOrder 78 = .ok (.iload_n 3, 1) := by decide +kernel
theorem dX11_doOrder_79 : decode cX11_doOrder 79 = .ok (.iload 4, 2) := by decide +kernel
theorem dX11_doOrder_81 : decode cX11_doOrder 81 = .ok (.invokevirtual 109, 3) := by decide +kernel
theorem dX11_doOrder_84 : decode cX11_doOrder 84 = .ok (.pop, 1) := by decide +kernel
theorem dX11_doOrder_85 : decode cX11_doOrder 85 = .ok (.goto 57, 3) := by decide +kernel
theorem dX11_doOrder_88 : decode cX11_doOrder 88 = .ok (.aload_n 0, 1) := by decide +kernel
theorem dX11_doOrder_89 : decode cX11_doOrder 89 = .ok (.getfield 10, 3) := by decide +kernel
theorem dX11_doOrder_92 : decode cX11_doOrder 92 = .ok (.iload_n 2, 1) := by decide +kernel
theorem dX11_doOrder_93 : decode cX11_doOrder 93 = .ok (.iload_n 3, 1) := by decide +kernel
theorem dX11_doOrder_94 : decode cX11_doOrder 94 = .ok (.iload 4, 2) := by decide +kernel
theorem dX11_doOrder_96 : decode cX11_doOrder 96 = .ok (.invokevirtual 175, 3) := by decide +kernel
theorem dX11_doOrder_99 : decode cX11_doOrder 99 = .ok (.pop, 1) := by decide +kernel
theorem dX11_doOrder_100 : decode cX11_doOrder 100 = .ok (.goto 42, 3) := by decide +kernel
theorem dX11_doOrder_103 : decode cX11_doOrder 103 = .ok (.aload_n 0, 1) := by decide +kernel
theorem dX11_doOrder_104 : decode cX11_doOrder 104 = .ok (.getfield 10, 3) := by decide +kernel
theorem dX11_doOrder_107 : decode cX11_doOrder 107 = .ok (.getfield 200, 3) := by decide +kernel
theorem dX11_doOrder_110 : decode cX11_doOrder 110 = .ok (.iload_n 2, 1) := by decide +kernel
theorem dX11_doOrder_111 : decode cX11_doOrder 111 = .ok (.invokevirtual 204, 3) := by decide +kernel
theorem dX11_doOrder_114 : decode cX11_doOrder 114 = .ok (.pop, 1) := by decide +kernel
theorem dX11_doOrder_115 : decode cX11_doOrder 115 = .ok (.goto 27, 3) := by decide +kernel
theorem dX11_doOrder_118 : decode cX11_doOrder 118 = .ok (.aload_n 0, 1) := by decide +kernel
theorem dX11_doOrder_119 : decode cX11_doOrder 119 = .ok (.getfield 10, 3) := by decide +kernel
theorem dX11_doOrder_122 : decode cX11_doOrder 122 = .ok (.getfield 200, 3) := by decide +kernel
theorem dX11_doOrder_125 : decode cX11_doOrder 125 = .ok (.iload_n 2, 1) := by decide +kernel
theorem dX11_doOrder_126 : decode cX11_doOrder 126 = .ok (.iload_n 3, 1) := by decide +kernel
theorem dX11_doOrder_127 : decode cX11_doOrder 127 = .ok (.invokevirtual 214, 3) := by decide +kernel
theorem dX11_doOrder_130 : decode cX11_doOrder 130 = .ok (.goto 12, 3) := by decide +kernel
theorem dX11_doOrder_133 : decode cX11_doOrder 133 = .ok (.aload_n 0, 1) := by decide +kernel
theorem dX11_doOrder_134 : decode cX11_doOrder 134 = .ok (.getfield 10, 3) := by decide +kernel
theorem dX11_doOrder_137 : decode cX11_doOrder 137 = .ok (.iload_n 2, 1) := by decide +kernel
theorem dX11_doOrder_138 : decode cX11_doOrder 138 = .ok (.invokevirtual 117, 3) := by decide +kernel
theorem dX11_doOrder_141 : decode cX11_doOrder 141 = .ok (.pop, 1) := by decide +kernel
theorem dX11_doOrder_142 : decode cX11_doOrder 142 = .ok (.return_, 1) := by decide +kernel
theorem k_X11_doOrder : cardV yX11_doOrder (Cond.code yX11_doOrder cX11_doOrder 5 none) 4 := ⟨⟨qi_X11_doOrder, qv_X11_doOrder⟩, qc_X11_doOrder, qn_X11, by decide +kernel, by decide +kernel, by decide +kernel⟩
set_option maxHeartbeats 4000000 in
set_option maxRecDepth 100000 in
theorem c_X11_doOrder (l : Launch) (D : va_G) (g : Nat → ClassId) (q_this q_town q_ahead q_kept q_past q_reason q_orders q_ways q_sheet q_town_houses q_town_halls q_town_posts q_town_blocks q_town_kinds q_town_houses_cells q_town_houses_froms q_town_houses_tos q_town_houses_rings q_town_houses_pranks q_town_halls_rows q_town_halls_firsts q_town_halls_lasts q_town_posts_cells q_town_posts_tolds : Nat) (p1 p2 p3 p4 : Int32) (f_isKept : Int32) (f_town_hour : Int32) (f_town_day : Int32) (f_town_prankHouse : Int32) (f_town_bells : Int32) (f_town_echoes : Int32) (f_town_bellPranks : Int32) (f_town_houses_size : Int32) (a_town_houses_cells : Nat → Int32) (a_town_houses_froms : Nat → Int32) (a_town_houses_tos : Nat → Int32) (a_town_houses_rings : Nat → Int32) (a_town_houses_pranks : Nat → Int32) (f_town_halls_size : Int32) (a_town_halls_rows : Nat → Int32) (a_town_halls_firsts : Nat → Int32) (a_town_halls_lasts : Nat → Int32) (f_town_posts_size : Int32) (a_town_posts_cells : Nat → Int32) (a_town_posts_tolds : Nat → Int32) (a_town_blocks : Nat → Int32) (a_town_kinds : Nat → Int32) (o : Int32 × Int32 × Int32 × Int32 × Int32 × Int32 × Int32 × (Nat → Int32) × (Nat → Int32) × (Nat → Int32) × (Nat → Int32) × (Nat → Int32) × Int32 × (Nat → Int32) × (Nat → Int32) × (Nat → Int32) × Int32 × (Nat → Int32) × (Nat → Int32) × (Nat → Int32) × (Nat → Int32)) (h : F_X11_doOrder p1 p2 p3 p4 f_town_hour f_town_day f_town_prankHouse f_town_bells f_town_echoes f_town_bellPranks f_town_houses_size a_town_houses_cells a_town_houses_froms a_town_houses_tos a_town_houses_rings a_town_houses_pranks f_town_halls_size a_town_halls_rows a_town_halls_firsts a_town_halls_lasts f_town_posts_size a_town_posts_cells a_town_posts_tolds a_town_blocks a_town_kinds = some o) : MW l yX11_doOrder (Cond.code yX11_doOrder cX11_doOrder 5 none) { frames := 5, cells := 0, slots := 0, locals := 133 } D g [.ref q_this, .int p1, .int p2, .int p3, .int p4] [(q_this, .inr (11, [.ref q_town, .ref q_ahead, .ref q_kept, .int f_isKept, .ref q_past, .ref q_reason, .ref q_orders, .ref q_ways, .ref q_sheet])), (q_town, .inr (9, [.ref q_town_houses, .ref q_town_halls, .ref q_town_posts, .ref q_town_blocks, .ref q_town_kinds, .int f_town_hour, .int f_town_day, .int f_town_prankHouse, .int f_town_bells, .int f_town_echoes, .int f_town_bellPranks])), (q_town_houses, .inr (3, [.int f_town_houses_size, .ref q_town_houses_cells, .ref q_town_houses_froms, .ref q_town_houses_tos, .ref q_town_houses_rings, .ref q_town_houses_pranks])), (q_town_houses_cells, .inl (g 0, 10, .inl a_town_houses_cells)), (q_town_houses_froms, .inl (g 0, 10, .inl a_town_houses_froms)), (q_town_houses_tos, .inl (g 0, 10, .inl a_town_houses_tos)), (q_town_houses_rings, .inl (g 0, 10, .inl a_town_houses_rings)), (q_town_houses_pranks, .inl (g 0, 10, .inl a_town_houses_pranks)), (q_town_halls, .inr (2, [.int f_town_halls_size, .ref q_town_halls_rows, .ref q_town_halls_firsts, .ref q_town_halls_lasts])), (q_town_halls_rows, .inl (g 0, 4, .inl a_town_halls_rows)), (q_town_halls_firsts, .inl (g 0, 4, .inl a_town_halls_firsts)), (q_town_halls_lasts, .inl (g 0, 4, .inl a_town_halls_lasts)), (q_town_posts, .inr (6, [.int f_town_posts_size, .ref q_town_posts_cells, .ref q_town_posts_tolds])), (q_town_posts_cells, .inl (g 0, 4, .inl a_town_posts_cells)), (q_town_posts_tolds, .inl (g 0, 4, .inl a_town_posts_tolds)), (q_town_blocks, .inl (g 0, 64, .inl a_town_blocks)), (q_town_kinds, .inl (g 0, 4, .inl a_town_kinds))] none [(q_this, .inr (11, [.ref q_town, .ref q_ahead, .ref q_kept, .int f_isKept, .ref q_past, .ref q_reason, .ref q_orders, .ref q_ways, .ref q_sheet])), (q_town, .inr (9, [.ref q_town_houses, .ref q_town_halls, .ref q_town_posts, .ref q_town_blocks, .ref q_town_kinds, .int o.1, .int o.2.1, .int o.2.2.1, .int o.2.2.2.1, .int o.2.2.2.2.1, .int o.2.2.2.2.2.1])), (q_town_houses, .inr (3, [.int o.2.2.2.2.2.2.1, .ref q_town_houses_cells, .ref q_town_houses_froms, .ref q_town_houses_tos, .ref q_town_houses_rings, .ref q_town_houses_pranks])), (q_town_houses_cells, .inl (g 0, 10, .inl o.2.2.2.2.2.2.2.1)), (q_town_houses_froms, .inl (g 0, 10, .inl o.2.2.2.2.2.2.2.2.1)), (q_town_houses_tos, .inl (g 0, 10, .inl o.2.2.2.2.2.2.2.2.2.1)), (q_town_houses_rings, .inl (g 0, 10, .inl o.2.2.2.2.2.2.2.2.2.2.1)), (q_town_houses_pranks, .inl (g 0, 10, .inl o.2.2.2.2.2.2.2.2.2.2.2.1)), (q_town_halls, .inr (2, [.int o.2.2.2.2.2.2.2.2.2.2.2.2.1, .ref q_town_halls_rows, .ref q_town_halls_firsts, .ref q_town_halls_lasts])), (q_town_halls_rows, .inl (g 0, 4, .inl o.2.2.2.2.2.2.2.2.2.2.2.2.2.1)), (q_town_halls_firsts, .inl (g 0, 4, .inl o.2.2.2.2.2.2.2.2.2.2.2.2.2.2.1)), (q_town_halls_lasts, .inl (g 0, 4, .inl o.2.2.2.2.2.2.2.2.2.2.2.2.2.2.2.1)), (q_town_posts, .inr (6, [.int o.2.2.2.2.2.2.2.2.2.2.2.2.2.2.2.2.1, .ref q_town_posts_cells, .ref q_town_posts_tolds])), (q_town_posts_cells, .inl (g 0, 4, .inl o.2.2.2.2.2.2.2.2.2.2.2.2.2.2.2.2.2.1)), (q_town_posts_tolds, .inl (g 0, 4, .inl o.2.2.2.2.2.2.2.2.2.2.2.2.2.2.2.2.2.2.1)), (q_town_blocks, .inl (g 0, 64, .inl o.2.2.2.2.2.2.2.2.2.2.2.2.2.2.2.2.2.2.2.1)), (q_town_kinds, .inl (g 0, 4, .inl o.2.2.2.2.2.2.2.2.2.2.2.2.2.2.2.2.2.2.2.2))] := by
  refine z_wr_start (by decide) (Nat.le_of_ble_eq_true rfl) ?_
  intro p e s m args below meth c Q A X hr hQ hA
  refine z_lv (lv' := [(0, .ref q_this), (1, .int p1), (2, .int p2), (3, .int p3), (4, .int p4)]) rfl ?_
  refine z_iload_n X 1 dX11_doOrder_0 rfl rfl ?_
  by_cases n1 : p1 = (0 : Int32)
  · have h := brn_t h n1
    refine z_tin (off := 39) 40 X dX11_doOrder_1 (sw_eq (k := 0) n1 (by decide)) (by decide) (by decide) (by decide) (by decide) ?_
    refine z_aload_n X 0 dX11_doOrder_40 rfl rfl ?_
    refine z_get (q0 := 0) (k := 0) (ci := 11) X IW_P iw_X11 rfl qf_X11_X11_town (by decide) dX11_doOrder_41 rfl rfl ?_
    refine z_getN (q0 := 1) (k := 0) (ci := 9) X IW_P iw_X9 rfl qfN_X11_X9_houses (by decide) dX11_doOrder_44 rfl rfl ?_
    refine z_iload_n X 2 dX11_doOrder_47 rfl rfl ?_
    refine z_iload_n X 3 dX11_doOrder_48 rfl rfl ?_
    refine z_iload X 4 dX11_doOrder_49 rfl ?_
    obtain ⟨o2, e3, h⟩ := bnd_p h
    refine z_wrV (rest := []) (q0 := 2) (ci := 3) (ws' := [(q_this, .inr (11, [.ref q_town, .ref q_ahead, .ref q_kept, .int f_isKept, .ref q_past, .ref q_reason, .ref q_orders, .ref q_ways, .ref q_sheet])), (q_town, .inr (9, [.ref q_town_houses, .ref q_town_halls, .ref q_town_posts, .ref q_town_blocks, .ref q_town_kinds, .int f_town_hour, .int f_town_day, .int f_town_prankHouse, .int f_town_bells, .int f_town_echoes, .int f_town_bellPranks])), (q_town_houses, .inr (3, [.int o2.2.1, .ref q_town_houses_cells, .ref q_town_houses_froms, .ref q_town_houses_tos, .ref q_town_houses_rings, .ref q_town_houses_pranks])), (q_town_houses_cells, .inl (g 0, 10, .inl o2.2.2.1)), (q_town_houses_froms, .inl (g 0, 10, .inl o2.2.2.2.1)), (q_town_houses_tos, .inl (g 0, 10, .inl o2.2.2.2.2.1)), (q_town_houses_rings, .inl (g 0, 10, .inl o2.2.2.2.2.2.1)), (q_town_houses_pranks, .inl (g 0, 10, .inl o2.2.2.2.2.2.2)), (q_town_halls, .inr (2, [.int f_town_halls_size, .ref q_town_halls_rows, .ref q_town_halls_firsts, .ref q_town_halls_lasts])), (q_town_halls_rows, .inl (g 0, 4, .inl a_town_halls_rows)), (q_town_halls_firsts, .inl (g 0, 4, .inl a_town_halls_firsts)), (q_town_halls_lasts, .inl (g 0, 4, .inl a_town_halls_lasts)), (q_town_posts, .inr (6, [.int f_town_posts_size, .ref q_town_posts_cells, .ref q_town_posts_tolds])), (q_town_posts_cells, .inl (g 0, 4, .inl a_town_posts_cells)), (q_town_posts_tolds, .inl (g 0, 4, .inl a_town_posts_tolds)), (q_town_blocks, .inl (g 0, 64, .inl a_town_blocks)), (q_town_kinds, .inl (g 0, 4, .inl a_town_kinds))]) (wr := [(q_this, .inr (11, [.ref q_town, .ref q_ahead, .ref q_kept, .int f_isKept, .ref q_past, .ref q_reason, .ref q_orders, .ref q_ways, .ref q_sheet])), (q_town, .inr (9, [.ref q_town_houses, .ref q_town_halls, .ref q_town_posts, .ref q_town_blocks, .ref q_town_kinds, .int f_town_hour, .int f_town_day, .int f_town_prankHouse, .int f_town_bells, .int f_town_echoes, .int f_town_bellPranks])), (q_town_halls, .inr (2, [.int f_town_halls_size, .ref q_town_halls_rows, .ref q_town_halls_firsts, .ref q_town_halls_lasts])), (q_town_halls_rows, .inl (g 0, 4, .inl a_town_halls_rows)), (q_town_halls_firsts, .inl (g 0, 4, .inl a_town_halls_firsts)), (q_town_halls_lasts, .inl (g 0, 4, .inl a_town_halls_lasts)), (q_town_posts, .inr (6, [.int f_town_posts_size, .ref q_town_posts_cells, .ref q_town_posts_tolds])), (q_town_posts_cells, .inl (g 0, 4, .inl a_town_posts_cells)), (q_town_posts_tolds, .inl (g 0, 4, .inl a_town_posts_tolds)), (q_town_blocks, .inl (g 0, 64, .inl a_town_blocks)), (q_town_kinds, .inl (g 0, 4, .inl a_town_kinds))]) (as := [q_this, q_town, q_town_houses, q_town_houses_cells, q_town_houses_froms, q_town_houses_tos, q_town_houses_rings, q_town_houses_pranks, q_town_halls, q_town_halls_rows, q_town_halls_firsts, q_town_halls_lasts, q_town_posts, q_town_posts_cells, q_town_posts_tolds, q_town_blocks, q_town_kinds]) X k_X2_add (c_X2_add l D g q_town_houses q_town_houses_cells q_town_houses_froms q_town_houses_tos q_town_houses_rings q_town_houses_pranks p2 p3 p4 f_town_houses_size a_town_houses_cells a_town_houses_froms a_town_houses_tos a_town_houses_rings a_town_houses_pranks o2 e3) ql_X11_X2_add dX11_doOrder_51 [2, 3, 4, 5, 6, 7] [0, 1, 8, 9, 10, 11, 12, 13, 14, 15, 16] ⟨rfl, rfl, rfl, rfl, rfl, rfl, rfl, rfl⟩ rfl rfl rfl rfl rfl ⟨Nat.le_of_ble_eq_true rfl, Nat.le_of_ble_eq_true rfl, rfl, rfl, Nat.le_of_ble_eq_true rfl, Nat.le_of_ble_eq_true rfl⟩ (Nat.le_of_ble_eq_true rfl) ?_
    refine z_pop X dX11_doOrder_54 rfl ?_
    refine z_goto X 142 dX11_doOrder_55 (by decide) ?_
    cases h
    exact z_vretW X hQ hA hr dX11_doOrder_142
  have h := brn_f h n1
  by_cases n4 : p1 = (1 : Int32)
  · have h := brn_t h n4
    refine z_tin (off := 57) 58 X dX11_doOrder_1 (sw_eq (k := 1) n4 (by decide)) (by decide) (by decide) (by decide) (by decide) ?_
    refine z_aload_n X 0 dX11_doOrder_58 rfl rfl ?_
    refine z_get (q0 := 0) (k := 0) (ci := 11) X IW_P iw_X11 rfl qf_X11_X11_town (by decide) dX11_doOrder_59 rfl rfl ?_
    refine z_iload_n X 2 dX11_doOrder_62 rfl rfl ?_
    obtain ⟨o5, e6, h⟩ := bnd_p h
    refine z_wrV (rest := []) (q0 := 1) (ci := 9) (ws' := [(q_this, .inr (11, [.ref q_town, .ref q_ahead, .ref q_kept, .int f_isKept, .ref q_past, .ref q_reason, .ref q_orders, .ref q_ways, .ref q_sheet])), (q_town, .inr (9, [.ref q_town_houses, .ref q_town_halls, .ref q_town_posts, .ref q_town_blocks, .ref q_town_kinds, .int f_town_hour, .int f_town_day, .int f_town_prankHouse, .int f_town_bells, .int f_town_echoes, .int f_town_bellPranks])), (q_town_houses, .inr (3, [.int f_town_houses_size, .ref q_town_houses_cells, .ref q_town_houses_froms, .ref q_town_houses_tos, .ref q_town_houses_rings, .ref q_town_houses_pranks])), (q_town_houses_cells, .inl (g 0, 10, .inl a_town_houses_cells)), (q_town_houses_froms, .inl (g 0, 10, .inl a_town_houses_froms)), (q_town_houses_tos, .inl (g 0, 10, .inl a_town_houses_tos)), (q_town_houses_rings, .inl (g 0, 10, .inl a_town_houses_rings)), (q_town_houses_pranks, .inl (g 0, 10, .inl a_town_houses_pranks)), (q_town_halls, .inr (2, [.int f_town_halls_size, .ref q_town_halls_rows, .ref q_town_halls_firsts, .ref q_town_halls_lasts])), (q_town_halls_rows, .inl (g 0, 4, .inl a_town_halls_rows)), (q_town_halls_firsts, .inl (g 0, 4, .inl a_town_halls_firsts)), (q_town_halls_lasts, .inl (g 0, 4, .inl a_town_halls_lasts)), (q_town_posts, .inr (6, [.int f_town_posts_size, .ref q_town_posts_cells, .ref q_town_posts_tolds])), (q_town_posts_cells, .inl (g 0, 4, .inl a_town_posts_cells)), (q_town_posts_tolds, .inl (g 0, 4, .inl a_town_posts_tolds)), (q_town_blocks, .inl (g 0, 64, .inl o5.2)), (q_town_kinds, .inl (g 0, 4, .inl a_town_kinds))]) (wr := [(q_this, .inr (11, [.ref q_town, .ref q_ahead, .ref q_kept, .int f_isKept, .ref q_past, .ref q_reason, .ref q_orders, .ref q_ways, .ref q_sheet])), (q_town_houses, .inr (3, [.int f_town_houses_size, .ref q_town_houses_cells, .ref q_town_houses_froms, .ref q_town_houses_tos, .ref q_town_houses_rings, .ref q_town_houses_pranks])), (q_town_houses_cells, .inl (g 0, 10, .inl a_town_houses_cells)), (q_town_houses_froms, .inl (g 0, 10, .inl a_town_houses_froms)), (q_town_houses_tos, .inl (g 0, 10, .inl a_town_houses_tos)), (q_town_houses_rings, .inl (g 0, 10, .inl a_town_houses_rings)), (q_town_houses_pranks, .inl (g 0, 10, .inl a_town_houses_pranks)), (q_town_halls, .inr (2, [.int f_town_halls_size, .ref q_town_halls_rows, .ref q_town_halls_firsts, .ref q_town_halls_lasts])), (q_town_halls_rows, .inl (g 0, 4, .inl a_town_halls_rows)), (q_town_halls_firsts, .inl (g 0, 4, .inl a_town_halls_firsts)), (q_town_halls_lasts, .inl (g 0, 4, .inl a_town_halls_lasts)), (q_town_posts, .inr (6, [.int f_town_posts_size, .ref q_town_posts_cells, .ref q_town_posts_tolds])), (q_town_posts_cells, .inl (g 0, 4, .inl a_town_posts_cells)), (q_town_posts_tolds, .inl (g 0, 4, .inl a_town_posts_tolds)), (q_town_kinds, .inl (g 0, 4, .inl a_town_kinds))]) (as := [q_this, q_town, q_town_houses, q_town_houses_cells, q_town_houses_froms, q_town_houses_tos, q_town_houses_rings, q_town_houses_pranks, q_town_halls, q_town_halls_rows, q_town_halls_firsts, q_town_halls_lasts, q_town_posts, q_town_posts_cells, q_town_posts_tolds, q_town_blocks, q_town_kinds]) X k_X9_turnBlock (c_X9_turnBlock l D g q_town q_town_houses q_town_halls q_town_posts q_town_blocks q_town_kinds p2 f_town_hour f_town_day f_town_prankHouse f_town_bells f_town_echoes f_town_bellPranks a_town_blocks o5 e6) ql_X11_X9_turnBlock dX11_doOrder_63 [1, 15] [0, 2, 3, 4, 5, 6, 7, 8, 9, 10, 11, 12, 13, 14, 16] ⟨rfl, rfl, rfl, rfl, rfl, rfl, rfl, rfl⟩ rfl rfl rfl rfl rfl ⟨Nat.le_of_ble_eq_true rfl, Nat.le_of_ble_eq_true rfl, rfl, rfl, Nat.le_of_ble_eq_true rfl, Nat.le_of_ble_eq_true rfl⟩ (Nat.le_of_ble_eq_true rfl) ?_
    refine z_pop X dX11_doOrder_66 rfl ?_
    refine z_goto X 142 dX11_doOrder_67 (by decide) ?_
    cases h
    exact z_vretW X hQ hA hr dX11_doOrder_142
  have h := brn_f h n4
  by_cases n7 : p1 = (2 : Int32)
  · have h := brn_t h n7
    refine z_tin (off := 69) 70 X dX11_doOrder_1 (sw_eq (k := 2) n7 (by decide)) (by decide) (by decide) (by decide) (by decide) ?_
    refine z_aload_n X 0 dX11_doOrder_70 rfl rfl ?_
    refine z_get (q0 := 0) (k := 0) (ci := 11) X IW_P iw_X11 rfl qf_X11_X11_town (by decide) dX11_doOrder_71 rfl rfl ?_
    refine z_getN (q0 := 1) (k := 1) (ci := 9) X IW_P iw_X9 rfl qfN_X11_X9_halls (by decide) dX11_doOrder_74 rfl rfl ?_
    refine z_iload_n X 2 dX11_doOrder_77 rfl rfl ?_
    refine z_iload_n X 3 dX11_doOrder_78 rfl rfl ?_
    refine z_iload X 4 dX11_doOrder_79 rfl ?_
    obtain ⟨o8, e9, h⟩ := bnd_p h
    refine z_wrV (rest := []) (q0 := 8) (ci := 2) (ws' := [(q_this, .inr (11, [.ref q_town, .ref q_ahead, .ref q_kept, .int f_isKept, .ref q_past, .ref q_reason, .ref q_orders, .ref q_ways, .ref q_sheet])), (q_town, .inr (9, [.ref q_town_houses, .ref q_town_halls, .ref q_town_posts, .ref q_town_blocks, .ref q_town_kinds, .int f_town_hour, .int f_town_day, .int f_town_prankHouse, .int f_town_bells, .int f_town_echoes, .int f_town_bellPranks])), (q_town_houses, .inr (3, [.int f_town_houses_size, .ref q_town_houses_cells, .ref q_town_houses_froms, .ref q_town_houses_tos, .ref q_town_houses_rings, .ref q_town_houses_pranks])), (q_town_houses_cells, .inl (g 0, 10, .inl a_town_houses_cells)), (q_town_houses_froms, .inl (g 0, 10, .inl a_town_houses_froms)), (q_town_houses_tos, .inl (g 0, 10, .inl a_town_houses_tos)), (q_town_houses_rings, .inl (g 0, 10, .inl a_town_houses_rings)), (q_town_houses_pranks, .inl (g 0, 10, .inl a_town_houses_pranks)), (q_town_halls, .inr (2, [.int o8.2.1, .ref q_town_halls_rows, .ref q_town_halls_firsts, .ref q_town_halls_lasts])), (q_town_halls_rows, .inl (g 0, 4, .inl o8.2.2.1)), (q_town_halls_firsts, .inl (g 0, 4, .inl o8.2.2.2.1)), (q_town_halls_lasts, .inl (g 0, 4, .inl o8.2.2.2.2)), (q_town_posts, .inr (6, [.int f_town_posts_size, .ref q_town_posts_cells, .ref q_town_posts_tolds])), (q_town_posts_cells, .inl (g 0, 4, .inl a_town_posts_cells)), (q_town_posts_tolds, .inl (g 0, 4, .inl a_town_posts_tolds)), (q_town_blocks, .inl (g 0, 64, .inl a_town_blocks)), (q_town_kinds, .inl (g 0, 4, .inl a_town_kinds))]) (wr := [(q_this, .inr (11, [.ref q_town, .ref q_ahead, .ref q_kept, .int f_isKept, .ref q_past, .ref q_reason, .ref q_orders, .ref q_ways, .ref q_sheet])), (q_town, .inr (9, [.ref q_town_houses, .ref q_town_halls, .ref q_town_posts, .ref q_town_blocks, .ref q_town_kinds, .int f_town_hour, .int f_town_day, .int f_town_prankHouse, .int f_town_bells, .int f_town_echoes, .int f_town_bellPranks])), (q_town_houses, .inr (3, [.int f_town_houses_size, .ref q_town_houses_cells, .ref q_town_houses_froms, .ref q_town_houses_tos, .ref q_town_houses_rings, .ref q_town_houses_pranks])), (q_town_houses_cells, .inl (g 0, 10, .inl a_town_houses_cells)), (q_town_houses_froms, .inl (g 0, 10, .inl a_town_houses_froms)), (q_town_houses_tos, .inl (g 0, 10, .inl a_town_houses_tos)), (q_town_houses_rings, .inl (g 0, 10, .inl a_town_houses_rings)), (q_town_houses_pranks, .inl (g 0, 10, .inl a_town_houses_pranks)), (q_town_posts, .inr (6, [.int f_town_posts_size, .ref q_town_posts_cells, .ref q_town_posts_tolds])), (q_town_posts_cells, .inl (g 0, 4, .inl a_town_posts_cells)), (q_town_posts_tolds, .inl (g 0, 4, .inl a_town_posts_tolds)), (q_town_blocks, .inl (g 0, 64, .inl a_town_blocks)), (q_town_kinds, .inl (g 0, 4, .inl a_town_kinds))]) (as := [q_this, q_town, q_town_houses, q_town_houses_cells, q_town_houses_froms, q_town_houses_tos, q_town_houses_rings, q_town_houses_pranks, q_town_halls, q_town_halls_rows, q_town_halls_firsts, q_town_halls_lasts, q_town_posts, q_town_posts_cells, q_town_posts_tolds, q_town_blocks, q_town_kinds]) X k_X1_add (c_X1_add l D g q_town_halls q_town_halls_rows q_town_halls_firsts q_town_halls_lasts p2 p3 p4 f_town_halls_size a_town_halls_rows a_town_halls_firsts a_town_halls_lasts o8 e9) ql_X11_X1_add dX11_doOrder_81 [8, 9, 10, 11] [0, 1, 2, 3, 4, 5, 6, 7, 12, 13, 14, 15, 16] ⟨rfl, rfl, rfl, rfl, rfl, rfl, rfl, rfl⟩ rfl rfl rfl rfl rfl ⟨Nat.le_of_ble_eq_true rfl, Nat.le_of_ble_eq_true rfl, rfl, rfl, Nat.le_of_ble_eq_true rfl, Nat.le_of_ble_eq_true rfl⟩ (Nat.le_of_ble_eq_true rfl) ?_
    refine z_pop X dX11_doOrder_84 rfl ?_
    refine z_goto X 142 dX11_doOrder_85 (by decide) ?_
    cases h
    exact z_vretW X hQ hA hr dX11_doOrder_142
  have h := brn_f h n7
  by_cases n10 : p1 = (3 : Int32)
  · have h := brn_t h n10
    refine z_tin (off := 87) 88 X dX11_doOrder_1 (sw_eq (k := 3) n10 (by decide)) (by decide) (by decide) (by decide) (by decide) ?_
    refine z_aload_n X 0 dX11_doOrder_88 rfl rfl ?_
    refine z_get (q0 := 0) (k := 0) (ci := 11) X IW_P iw_X11 rfl qf_X11_X11_town (by decide) dX11_doOrder_89 rfl rfl ?_
    refine z_iload_n X 2 dX11_doOrder_92 rfl rfl ?_
    refine z_iload_n X 3 dX11_doOrder_93 rfl rfl ?_
    refine z_iload X 4 dX11_doOrder_94 rfl ?_
    obtain ⟨o11, e12, h⟩ := bnd_p h
    refine z_wrV (rest := []) (q0 := 1) (ci := 9) (ws' := [(q_this, .inr (11, [.ref q_town, .ref q_ahead, .ref q_kept, .int f_isKept, .ref q_past, .ref q_reason, .ref q_orders, .ref q_ways, .ref q_sheet])), (q_town, .inr (9, [.ref q_town_houses, .ref q_town_halls, .ref q_town_posts, .ref q_town_blocks, .ref q_town_kinds, .int f_town_hour, .int f_town_day, .int o11.2.1, .int o11.2.2.1, .int o11.2.2.2.1, .int o11.2.2.2.2.1])), (q_town_houses, .inr (3, [.int f_town_houses_size, .ref q_town_houses_cells, .ref q_town_houses_froms, .ref q_town_houses_tos, .ref q_town_houses_rings, .ref q_town_houses_pranks])), (q_town_houses_cells, .inl (g 0, 10, .inl a_town_houses_cells)), (q_town_houses_froms, .inl (g 0, 10, .inl a_town_houses_froms)), (q_town_houses_tos, .inl (g 0, 10, .inl a_town_houses_tos)), (q_town_houses_rings, .inl (g 0, 10, .inl o11.2.2.2.2.2.1)), (q_town_houses_pranks, .inl (g 0, 10, .inl o11.2.2.2.2.2.2.1)), (q_town_halls, .inr (2, [.int f_town_halls_size, .ref q_town_halls_rows, .ref q_town_halls_firsts, .ref q_town_halls_lasts])), (q_town_halls_rows, .inl (g 0, 4, .inl a_town_halls_rows)), (q_town_halls_firsts, .inl (g 0, 4, .inl a_town_halls_firsts)), (q_town_halls_lasts, .inl (g 0, 4, .inl a_town_halls_lasts)), (q_town_posts, .inr (6, [.int f_town_posts_size, .ref q_town_posts_cells, .ref q_town_posts_tolds])), (q_town_posts_cells, .inl (g 0, 4, .inl a_town_posts_cells)), (q_town_posts_tolds, .inl (g 0, 4, .inl o11.2.2.2.2.2.2.2.1)), (q_town_blocks, .inl (g 0, 64, .inl a_town_blocks)), (q_town_kinds, .inl (g 0, 4, .inl o11.2.2.2.2.2.2.2.2))]) (wr := [(q_this, .inr (11, [.ref q_town, .ref q_ahead, .ref q_kept, .int f_isKept, .ref q_past, .ref q_reason, .ref q_orders, .ref q_ways, .ref q_sheet])), (q_town_posts_cells, .inl (g 0, 4, .inl a_town_posts_cells)), (q_town_blocks, .inl (g 0, 64, .inl a_town_blocks))]) (as := [q_this, q_town, q_town_houses, q_town_houses_cells, q_town_houses_froms, q_town_houses_tos, q_town_houses_rings, q_town_houses_pranks, q_town_halls, q_town_halls_rows, q_town_halls_firsts, q_town_halls_lasts, q_town_posts, q_town_posts_cells, q_town_posts_tolds, q_town_blocks, q_town_kinds]) X k_X9_ringAt (c_X9_ringAt l D g q_town q_town_houses q_town_halls q_town_posts q_town_blocks q_town_kinds q_town_houses_cells q_town_houses_froms q_town_houses_tos q_town_houses_rings q_town_houses_pranks q_town_halls_rows q_town_halls_firsts q_town_halls_lasts q_town_posts_cells q_town_posts_tolds p2 p3 p4 f_town_hour f_town_day f_town_prankHouse f_town_bells f_town_echoes f_town_bellPranks f_town_houses_size a_town_houses_cells a_town_houses_froms a_town_houses_tos a_town_houses_rings a_town_houses_pranks f_town_halls_size a_town_halls_rows a_town_halls_firsts a_town_halls_lasts f_town_posts_size a_town_posts_tolds a_town_kinds o11 e12) ql_X11_X9_ringAt dX11_doOrder_96 [1, 2, 3, 4, 5, 6, 7, 8, 9, 10, 11, 12, 14, 16] [0, 13, 15] ⟨rfl, rfl, rfl, rfl, rfl, rfl, rfl, rfl⟩ rfl rfl rfl rfl rfl ⟨Nat.le_of_ble_eq_true rfl, Nat.le_of_ble_eq_true rfl, rfl, rfl, Nat.le_of_ble_eq_true rfl, Nat.le_of_ble_eq_true rfl⟩ (Nat.le_of_ble_eq_true rfl) ?_
    refine z_pop X dX11_doOrder_99 rfl ?_
    refine z_goto X 142 dX11_doOrder_100 (by decide) ?_
    cases h
    exact z_vretW X hQ hA hr dX11_doOrder_142
  have h := brn_f h n10
  by_cases n13 : p1 = (4 : Int32)
  · have h := brn_t h n13
    refine z_tin (off := 102) 103 X dX11_doOrder_1 (sw_eq (k := 4) n13 (by decide)) (by decide) (by decide) (by decide) (by decide) ?_
    refine z_aload_n X 0 dX11_doOrder_103 rfl rfl ?_
    refine z_get (q0 := 0) (k := 0) (ci := 11) X IW_P iw_X11 rfl qf_X11_X11_town (by decide) dX11_doOrder_104 rfl rfl ?_
    refine z_getN (q0 := 1) (k := 2) (ci := 9) X IW_P iw_X9 rfl qfN_X11_X9_posts (by decide) dX11_doOrder_107 rfl rfl ?_
    refine z_iload_n X 2 dX11_doOrder_110 rfl rfl ?_
    obtain ⟨o14, e15, h⟩ := bnd_p h
    refine z_wrV (rest := []) (q0 := 12) (ci := 6) (ws' := [(q_this, .inr (11, [.ref q_town, .ref q_ahead, .ref q_kept, .int f_isKept, .ref q_past, .ref q_reason, .ref q_orders, .ref q_ways, .ref q_sheet])), (q_town, .inr (9, [.ref q_town_houses, .ref q_town_halls, .ref q_town_posts, .ref q_town_blocks, .ref q_town_kinds, .int f_town_hour, .int f_town_day, .int f_town_prankHouse, .int f_town_bells, .int f_town_echoes, .int f_town_bellPranks])), (q_town_houses, .inr (3, [.int f_town_houses_size, .ref q_town_houses_cells, .ref q_town_houses_froms, .ref q_town_houses_tos, .ref q_town_houses_rings, .ref q_town_houses_pranks])), (q_town_houses_cells, .inl (g 0, 10, .inl a_town_houses_cells)), (q_town_houses_froms, .inl (g 0, 10, .inl a_town_houses_froms)), (q_town_houses_tos, .inl (g 0, 10, .inl a_town_houses_tos)), (q_town_houses_rings, .inl (g 0, 10, .inl a_town_houses_rings)), (q_town_houses_pranks, .inl (g 0, 10, .inl a_town_houses_pranks)), (q_town_halls, .inr (2, [.int f_town_halls_size, .ref q_town_halls_rows, .ref q_town_halls_firsts, .ref q_town_halls_lasts])), (q_town_halls_rows, .inl (g 0, 4, .inl a_town_halls_rows)), (q_town_halls_firsts, .inl (g 0, 4, .inl a_town_halls_firsts)), (q_town_halls_lasts, .inl (g 0, 4, .inl a_town_halls_lasts)), (q_town_posts, .inr (6, [.int o14.2.1, .ref q_town_posts_cells, .ref q_town_posts_tolds])), (q_town_posts_cells, .inl (g 0, 4, .inl o14.2.2.1)), (q_town_posts_tolds, .inl (g 0, 4, .inl o14.2.2.2)), (q_town_blocks, .inl (g 0, 64, .inl a_town_blocks)), (q_town_kinds, .inl (g 0, 4, .inl a_town_kinds))]) (wr := [(q_this, .inr (11, [.ref q_town, .ref q_ahead, .ref q_kept, .int f_isKept, .ref q_past, .ref q_reason, .ref q_orders, .ref q_ways, .ref q_sheet])), (q_town, .inr (9, [.ref q_town_houses, .ref q_town_halls, .ref q_town_posts, .ref q_town_blocks, .ref q_town_kinds, .int f_town_hour, .int f_town_day, .int f_town_prankHouse, .int f_town_bells, .int f_town_echoes, .int f_town_bellPranks])), (q_town_houses, .inr (3, [.int f_town_houses_size, .ref q_town_houses_cells, .ref q_town_houses_froms, .ref q_town_houses_tos, .ref q_town_houses_rings, .ref q_town_houses_pranks])), (q_town_houses_cells, .inl (g 0, 10, .inl a_town_houses_cells)), (q_town_houses_froms, .inl (g 0, 10, .inl a_town_houses_froms)), (q_town_houses_tos, .inl (g 0, 10, .inl a_town_houses_tos)), (q_town_houses_rings, .inl (g 0, 10, .inl a_town_houses_rings)), (q_town_houses_pranks, .inl (g 0, 10, .inl a_town_houses_pranks)), (q_town_halls, .inr (2, [.int f_town_halls_size, .ref q_town_halls_rows, .ref q_town_halls_firsts, .ref q_town_halls_lasts])), (q_town_halls_rows, .inl (g 0, 4, .inl a_town_halls_rows)), (q_town_halls_firsts, .inl (g 0, 4, .inl a_town_halls_firsts)), (q_town_halls_lasts, .inl (g 0, 4, .inl a_town_halls_lasts)), (q_town_blocks, .inl (g 0, 64, .inl a_town_blocks)), (q_town_kinds, .inl (g 0, 4, .inl a_town_kinds))]) (as := [q_this, q_town, q_town_houses, q_town_houses_cells, q_town_houses_froms, q_town_houses_tos, q_town_houses_rings, q_town_houses_pranks, q_town_halls, q_town_halls_rows, q_town_halls_firsts, q_town_halls_lasts, q_town_posts, q_town_posts_cells, q_town_posts_tolds, q_town_blocks, q_town_kinds]) X k_X5_add (c_X5_add l D g q_town_posts q_town_posts_cells q_town_posts_tolds p2 f_town_posts_size a_town_posts_cells a_town_posts_tolds o14 e15) ql_X11_X5_add dX11_doOrder_111 [12, 13, 14] [0, 1, 2, 3, 4, 5, 6, 7, 8, 9, 10, 11, 15, 16] ⟨rfl, rfl, rfl, rfl, rfl, rfl, rfl, rfl⟩ rfl rfl rfl rfl rfl ⟨Nat.le_of_ble_eq_true rfl, Nat.le_of_ble_eq_true rfl, rfl, rfl, Nat.le_of_ble_eq_true rfl, Nat.le_of_ble_eq_true rfl⟩ (Nat.le_of_ble_eq_true rfl) ?_
    refine z_pop X dX11_doOrder_114 rfl ?_
    refine z_goto X 142 dX11_doOrder_115 (by decide) ?_
    cases h
    exact z_vretW X hQ hA hr dX11_doOrder_142
  have h := brn_f h n13
  by_cases n16 : p1 = (5 : Int32)
  · have h := brn_t h n16
    refine z_tin (off := 117) 118 X dX11_doOrder_1 (sw_eq (k := 5) n16 (by decide)) (by decide) (by decide) (by decide) (by decide) ?_
    refine z_aload_n X 0 dX11_doOrder_118 rfl rfl ?_
    refine z_get (q0 := 0) (k := 0) (ci := 11) X IW_P iw_X11 rfl qf_X11_X11_town (by decide) dX11_doOrder_119 rfl rfl ?_
    refine z_getN (q0 := 1) (k := 2) (ci := 9) X IW_P iw_X9 rfl qfN_X11_X9_posts (by decide) dX11_doOrder_122 rfl rfl ?_
    refine z_iload_n X 2 dX11_doOrder_125 rfl rfl ?_
    refine z_iload_n X 3 dX11_doOrder_126 rfl rfl ?_
    obtain ⟨o17, e18, h⟩ := bnd_p h
    refine z_wrV (rest := []) (q0 := 12) (ci := 6) (ws' := [(q_this, .inr (11, [.ref q_town, .ref q_ahead, .ref q_kept, .int f_isKept, .ref q_past, .ref q_reason, .ref q_orders, .ref q_ways, .ref q_sheet])), (q_town, .inr (9, [.ref q_town_houses, .ref q_town_halls, .ref q_town_posts, .ref q_town_blocks, .ref q_town_kinds, .int f_town_hour, .int f_town_day, .int f_town_prankHouse, .int f_town_bells, .int f_town_echoes, .int f_town_bellPranks])), (q_town_houses, .inr (3, [.int f_town_houses_size, .ref q_town_houses_cells, .ref q_town_houses_froms, .ref q_town_houses_tos, .ref q_town_houses_rings, .ref q_town_houses_pranks])), (q_town_houses_cells, .inl (g 0, 10, .inl a_town_houses_cells)), (q_town_houses_froms, .inl (g 0, 10, .inl a_town_houses_froms)), (q_town_houses_tos, .inl (g 0, 10, .inl a_town_houses_tos)), (q_town_houses_rings, .inl (g 0, 10, .inl a_town_houses_rings)), (q_town_houses_pranks, .inl (g 0, 10, .inl a_town_houses_pranks)), (q_town_halls, .inr (2, [.int f_town_halls_size, .ref q_town_halls_rows, .ref q_town_halls_firsts, .ref q_town_halls_lasts])), (q_town_halls_rows, .inl (g 0, 4, .inl a_town_halls_rows)), (q_town_halls_firsts, .inl (g 0, 4, .inl a_town_halls_firsts)), (q_town_halls_lasts, .inl (g 0, 4, .inl a_town_halls_lasts)), (q_town_posts, .inr (6, [.int f_town_posts_size, .ref q_town_posts_cells, .ref q_town_posts_tolds])), (q_town_posts_cells, .inl (g 0, 4, .inl a_town_posts_cells)), (q_town_posts_tolds, .inl (g 0, 4, .inl o17)), (q_town_blocks, .inl (g 0, 64, .inl a_town_blocks)), (q_town_kinds, .inl (g 0, 4, .inl a_town_kinds))]) (wr := [(q_this, .inr (11, [.ref q_town, .ref q_ahead, .ref q_kept, .int f_isKept, .ref q_past, .ref q_reason, .ref q_orders, .ref q_ways, .ref q_sheet])), (q_town, .inr (9, [.ref q_town_houses, .ref q_town_halls, .ref q_town_posts, .ref q_town_blocks, .ref q_town_kinds, .int f_town_hour, .int f_town_day, .int f_town_prankHouse, .int f_town_bells, .int f_town_echoes, .int f_town_bellPranks])), (q_town_houses, .inr (3, [.int f_town_houses_size, .ref q_town_houses_cells, .ref q_town_houses_froms, .ref q_town_houses_tos, .ref q_town_houses_rings, .ref q_town_houses_pranks])), (q_town_houses_cells, .inl (g 0, 10, .inl a_town_houses_cells)), (q_town_houses_froms, .inl (g 0, 10, .inl a_town_houses_froms)), (q_town_houses_tos, .inl (g 0, 10, .inl a_town_houses_tos)), (q_town_houses_rings, .inl (g 0, 10, .inl a_town_houses_rings)), (q_town_houses_pranks, .inl (g 0, 10, .inl a_town_houses_pranks)), (q_town_halls, .inr (2, [.int f_town_halls_size, .ref q_town_halls_rows, .ref q_town_halls_firsts, .ref q_town_halls_lasts])), (q_town_halls_rows, .inl (g 0, 4, .inl a_town_halls_rows)), (q_town_halls_firsts, .inl (g 0, 4, .inl a_town_halls_firsts)), (q_town_halls_lasts, .inl (g 0, 4, .inl a_town_halls_lasts)), (q_town_posts_cells, .inl (g 0, 4, .inl a_town_posts_cells)), (q_town_blocks, .inl (g 0, 64, .inl a_town_blocks)), (q_town_kinds, .inl (g 0, 4, .inl a_town_kinds))]) (as := [q_this, q_town, q_town_houses, q_town_houses_cells, q_town_houses_froms, q_town_houses_tos, q_town_houses_rings, q_town_houses_pranks, q_town_halls, q_town_halls_rows, q_town_halls_firsts, q_town_halls_lasts, q_town_posts, q_town_posts_cells, q_town_posts_tolds, q_town_blocks, q_town_kinds]) X k_X5_setTold (c_X5_setTold l D g q_town_posts q_town_posts_cells q_town_posts_tolds p2 p3 f_town_posts_size a_town_posts_tolds o17 e18) ql_X11_X5_setTold dX11_doOrder_127 [12, 14] [0, 1, 2, 3, 4, 5, 6, 7, 8, 9, 10, 11, 13, 15, 16] ⟨rfl, rfl, rfl, rfl, rfl, rfl, rfl, rfl⟩ rfl rfl rfl rfl rfl ⟨Nat.le_of_ble_eq_true rfl, Nat.le_of_ble_eq_true rfl, rfl, rfl, Nat.le_of_ble_eq_true rfl, Nat.le_of_ble_eq_true rfl⟩ (Nat.le_of_ble_eq_true rfl) ?_
    refine z_goto X 142 dX11_doOrder_130 (by decide) ?_
    cases h
    exact z_vretW X hQ hA hr dX11_doOrder_142
  have h := brn_f h n16
  refine z_tdef 133 [0, 1, 2, 3, 4, 5] X dX11_doOrder_1 (by decide) (by decide) (List.forall_mem_cons.mpr ⟨sw_ne n1 (by decide), List.forall_mem_cons.mpr ⟨sw_ne n4 (by decide), List.forall_mem_cons.mpr ⟨sw_ne n7 (by decide), List.forall_mem_cons.mpr ⟨sw_ne n10 (by decide), List.forall_mem_cons.mpr ⟨sw_ne n13 (by decide), List.forall_mem_cons.mpr ⟨sw_ne n16 (by decide), fun _ hk => absurd hk List.not_mem_nil⟩⟩⟩⟩⟩⟩) (by decide) ?_
  refine z_aload_n X 0 dX11_doOrder_133 rfl rfl ?_
  refine z_get (q0 := 0) (k := 0) (ci := 11) X IW_P iw_X11 rfl qf_X11_X11_town (by decide) dX11_doOrder_134 rfl rfl ?_
  refine z_iload_n X 2 dX11_doOrder_137 rfl rfl ?_
  obtain ⟨o19, e20, h⟩ := bnd_p h
  refine z_wrV (rest := []) (q0 := 1) (ci := 9) (ws' := [(q_this, .inr (11, [.ref q_town, .ref q_ahead, .ref q_kept, .int f_isKept, .ref q_past, .ref q_reason, .ref q_orders, .ref q_ways, .ref q_sheet])), (q_town, .inr (9, [.ref q_town_houses, .ref q_town_halls, .ref q_town_posts, .ref q_town_blocks, .ref q_town_kinds, .int o19.2.1, .int o19.2.2, .int f_town_prankHouse, .int f_town_bells, .int f_town_echoes, .int f_town_bellPranks])), (q_town_houses, .inr (3, [.int f_town_houses_size, .ref q_town_houses_cells, .ref q_town_houses_froms, .ref q_town_houses_tos, .ref q_town_houses_rings, .ref q_town_houses_pranks])), (q_town_houses_cells, .inl (g 0, 10, .inl a_town_houses_cells)), (q_town_houses_froms, .inl (g 0, 10, .inl a_town_houses_froms)), (q_town_houses_tos, .inl (g 0, 10, .inl a_town_houses_tos)), (q_town_houses_rings, .inl (g 0, 10, .inl a_town_houses_rings)), (q_town_houses_pranks, .inl (g 0, 10, .inl a_town_houses_pranks)), (q_town_halls, .inr (2, [.int f_town_halls_size, .ref q_town_halls_rows, .ref q_town_halls_firsts, .ref q_town_halls_lasts])), (q_town_halls_rows, .inl (g 0, 4, .inl a_town_halls_rows)), (q_town_halls_firsts, .inl (g 0, 4, .inl a_town_halls_firsts)), (q_town_halls_lasts, .inl (g 0, 4, .inl a_town_halls_lasts)), (q_town_posts, .inr (6, [.int f_town_posts_size, .ref q_town_posts_cells, .ref q_town_posts_tolds])), (q_town_posts_cells, .inl (g 0, 4, .inl a_town_posts_cells)), (q_town_posts_tolds, .inl (g 0, 4, .inl a_town_posts_tolds)), (q_town_blocks, .inl (g 0, 64, .inl a_town_blocks)), (q_town_kinds, .inl (g 0, 4, .inl a_town_kinds))]) (wr := [(q_this, .inr (11, [.ref q_town, .ref q_ahead, .ref q_kept, .int f_isKept, .ref q_past, .ref q_reason, .ref q_orders, .ref q_ways, .ref q_sheet])), (q_town_houses, .inr (3, [.int f_town_houses_size, .ref q_town_houses_cells, .ref q_town_houses_froms, .ref q_town_houses_tos, .ref q_town_houses_rings, .ref q_town_houses_pranks])), (q_town_houses_cells, .inl (g 0, 10, .inl a_town_houses_cells)), (q_town_houses_froms, .inl (g 0, 10, .inl a_town_houses_froms)), (q_town_houses_tos, .inl (g 0, 10, .inl a_town_houses_tos)), (q_town_houses_rings, .inl (g 0, 10, .inl a_town_houses_rings)), (q_town_houses_pranks, .inl (g 0, 10, .inl a_town_houses_pranks)), (q_town_halls, .inr (2, [.int f_town_halls_size, .ref q_town_halls_rows, .ref q_town_halls_firsts, .ref q_town_halls_lasts])), (q_town_halls_rows, .inl (g 0, 4, .inl a_town_halls_rows)), (q_town_halls_firsts, .inl (g 0, 4, .inl a_town_halls_firsts)), (q_town_halls_lasts, .inl (g 0, 4, .inl a_town_halls_lasts)), (q_town_posts, .inr (6, [.int f_town_posts_size, .ref q_town_posts_cells, .ref q_town_posts_tolds])), (q_town_posts_cells, .inl (g 0, 4, .inl a_town_posts_cells)), (q_town_posts_tolds, .inl (g 0, 4, .inl a_town_posts_tolds)), (q_town_blocks, .inl (g 0, 64, .inl a_town_blocks)), (q_town_kinds, .inl (g 0, 4, .inl a_town_kinds))]) (as := [q_this, q_town, q_town_houses, q_town_houses_cells, q_town_houses_froms, q_town_houses_tos, q_town_houses_rings, q_town_houses_pranks, q_town_halls, q_town_halls_rows, q_town_halls_firsts, q_town_halls_lasts, q_town_posts, q_town_posts_cells, q_town_posts_tolds, q_town_blocks, q_town_kinds]) X k_X9_letPass (c_X9_letPass l D g q_town q_town_houses q_town_halls q_town_posts q_town_blocks q_town_kinds p2 f_town_hour f_town_day f_town_prankHouse f_town_bells f_town_echoes f_town_bellPranks o19 e20) ql_X11_X9_letPass dX11_doOrder_138 [1] [0, 2, 3, 4, 5, 6, 7, 8, 9, 10, 11, 12, 13, 14, 15, 16] ⟨rfl, rfl, rfl, rfl, rfl, rfl, rfl, rfl⟩ rfl rfl rfl rfl rfl ⟨Nat.le_of_ble_eq_true rfl, Nat.le_of_ble_eq_true rfl, rfl, rfl, Nat.le_of_ble_eq_true rfl, Nat.le_of_ble_eq_true rfl⟩ (Nat.le_of_ble_eq_true rfl) ?_
  refine z_pop X dX11_doOrder_141 rfl ?_
  cases h
  exact z_vretW X hQ hA hr dX11_doOrder_142

def F_X3_errorPlace (f_errorPlace : Int32) : Option (Int32) :=
  some (f_errorPlace)
theorem dX3_errorPlace_0 : decode cX3_errorPlace 0 = .ok (.aload_n 0, 1) := by decide +kernel
theorem dX3_errorPlace_1 : decode cX3_errorPlace 1 = .ok (.getfield 32, 3) := by decide +kernel
theorem dX3_errorPlace_4 : decode cX3_errorPlace 4 = .ok (.ireturn, 1) := by decide +kernel
theorem k_X3_errorPlace : cardV yX3_errorPlace (Cond.code yX3_errorPlace cX3_errorPlace 1 (some .int)) 0 := ⟨⟨qi_X3_errorPlace, qv_X3_errorPlace⟩, qc_X3_errorPlace, qn_X3, by decide +kernel, by decide +kernel, by decide +kernel⟩
set_option maxHeartbeats 4000000 in
set_option maxRecDepth 100000 in
theorem c_X3_errorPlace (l : Launch) (D : va_G) (g : Nat → ClassId) (q_this q_signs q_kinds q_numbers : Nat) (f_size : Int32) (f_count : Int32) (f_place : Int32) (f_errorPlace : Int32) (o : Int32) (h : F_X3_errorPlace f_errorPlace = some o) : MR l yX3_errorPlace (Cond.code yX3_errorPlace cX3_errorPlace 1 (some .int)) { frames := 0, cells := 0, slots := 0, locals := 0 } D g [.ref q_this] [(q_this, .inr (4, [.ref q_signs, .ref q_kinds, .ref q_numbers, .int f_size, .int f_count, .int f_place, .int f_errorPlace]))] (some (.int o)) := by
  refine z_rd_start (by decide) (Nat.le_of_ble_eq_true rfl) ?_
  intro p e s m args below meth c Q X hr hQ
  refine z_lv (lv' := [(0, .ref q_this)]) rfl ?_
  refine z_aload_n X 0 dX3_errorPlace_0 rfl rfl ?_
  refine z_get (q0 := 0) (k := 6) (ci := 4) X IR_P iw_X3 rfl qf_X3_X3_errorPlace (by decide) dX3_errorPlace_1 rfl rfl ?_
  exact z_iretR X hQ hr dX3_errorPlace_4 h

def F_X11_errorPosition (f_orders_errorPlace : Int32) : Option (Int32) :=
  bnd (F_X3_errorPlace f_orders_errorPlace) (fun o1 => some (o1))
theorem dX11_errorPosition_0 : decode cX11_errorPosition 0 = .ok (.aload_n 0, 1) := by decide +kernel
theorem dX11_errorPosition_1 : decode cX11_errorPosition 1 = .ok (.getfield 43, 3) := by decide +kernel
theorem dX11_errorPosition_4 : decode cX11_errorPosition 4 = .ok (.invokevirtual 315, 3) := by decide +kernel
theorem dX11_errorPosition_7 : decode cX11_errorPosition 7 = .ok (.ireturn, 1) := by decide +kernel
theorem k_X11_errorPosition : cardV yX11_errorPosition (Cond.code yX11_errorPosition cX11_errorPosition 1 (some .int)) 0 := ⟨⟨qi_X11_errorPosition, qv_X11_errorPosition⟩, qc_X11_errorPosition, qn_X11, by decide +kernel, by decide +kernel, by decide +kernel⟩
set_option maxHeartbeats 4000000 in
set_option maxRecDepth 100000 in
theorem c_X11_errorPosition (l : Launch) (D : va_G) (g : Nat → ClassId) (q_this q_town q_ahead q_kept q_past q_reason q_orders q_ways q_sheet q_orders_signs q_orders_kinds q_orders_numbers : Nat) (f_isKept : Int32) (f_orders_size : Int32) (f_orders_count : Int32) (f_orders_place : Int32) (f_orders_errorPlace : Int32) (o : Int32) (h : F_X11_errorPosition f_orders_errorPlace = some o) : MR l yX11_errorPosition (Cond.code yX11_errorPosition cX11_errorPosition 1 (some .int)) { frames := 1, cells := 0, slots := 0, locals := 20 } D g [.ref q_this] [(q_this, .inr (11, [.ref q_town, .ref q_ahead, .ref q_kept, .int f_isKept, .ref q_past, .ref q_reason, .ref q_orders, .ref q_ways, .ref q_sheet])), (q_orders, .inr (4, [.ref q_orders_signs, .ref q_orders_kinds, .ref q_orders_numbers, .int f_orders_size, .int f_orders_count, .int f_orders_place, .int f_orders_errorPlace]))] (some (.int o)) := by
  refine z_rd_start (by decide) (Nat.le_of_ble_eq_true rfl) ?_
  intro p e s m args below meth c Q X hr hQ
  refine z_lv (lv' := [(0, .ref q_this)]) rfl ?_
  refine z_aload_n X 0 dX11_errorPosition_0 rfl rfl ?_
  refine z_get (q0 := 0) (k := 6) (ci := 11) X IR_P iw_X11 rfl qf_X11_X11_orders (by decide) dX11_errorPosition_1 rfl rfl ?_
  obtain ⟨o1, e2, h⟩ := bnd_p h
  refine z_rdV (rest := []) (q0 := 1) (ci := 4) X IR_P k_X3_errorPlace (c_X3_errorPlace l D g q_orders q_orders_signs q_orders_kinds q_orders_numbers f_orders_size f_orders_count f_orders_place f_orders_errorPlace o1 e2) ql_X11_X3_errorPlace dX11_errorPosition_4 [1] rfl rfl rfl rfl rfl rfl ⟨Nat.le_of_ble_eq_true rfl, Nat.le_of_ble_eq_true rfl, rfl, rfl, Nat.le_of_ble_eq_true rfl, Nat.le_of_ble_eq_true rfl⟩ (Nat.le_of_ble_eq_true rfl) ?_
  exact z_iretR X hQ hr dX11_errorPosition_7 h

def F_X6_isGiven (f_number : Int32) : Option (Int32) :=
  brn (f_number = ((-1) : Int32)) (some ((0 : Int32))) (some ((1 : Int32)))
theorem dX6_isGiven_0 : decode cX6_isGiven 0 = .ok (.aload_n 0, 1) := by decide +kernel
theorem dX6_isGiven_1 : decode cX6_isGiven 1 = .ok (.getfield 9, 3) := by decide +kernel
theorem dX6_isGiven_4 : decode cX6_isGiven 4 = .ok (.iconst (-1), 1) := by decide +kernel
theorem dX6_isGiven_5 : decode cX6_isGiven 5 = .ok (.if_icmp .eq 7, 3) := by decide +kernel
theorem dX6_isGiven_8 : decode cX6_isGiven 8 = .ok (.iconst 1, 1) := by decide +kernel
theorem dX6_isGiven_9 : decode cX6_isGiven 9 = .ok (.goto 4, 3) := by decide +kernel
theorem dX6_isGiven_12 : decode cX6_isGiven 12 = .ok (.iconst 0, 1) := by decide +kernel
theorem dX6_isGiven_13 : decode cX6_isGiven 13 = .ok (.ireturn, 1) := by decide +kernel
theorem k_X6_isGiven : cardV yX6_isGiven (Cond.code yX6_isGiven cX6_isGiven 1 (some .boolean)) 0 := ⟨⟨qi_X6_isGiven, qv_X6_isGiven⟩, qc_X6_isGiven, qn_X6, by decide +kernel, by decide +kernel, by decide +kernel⟩
set_option maxHeartbeats 4000000 in
set_option maxRecDepth 100000 in
theorem c_X6_isGiven (l : Launch) (D : va_G) (g : Nat → ClassId) (q_this : Nat) (f_number : Int32) (f_detail : Int32) (o : Int32) (h : F_X6_isGiven f_number = some o) : MR l yX6_isGiven (Cond.code yX6_isGiven cX6_isGiven 1 (some .boolean)) { frames := 0, cells := 0, slots := 0, locals := 0 } D g [.ref q_this] [(q_this, .inr (7, [.int f_number, .int f_detail]))] (some (.int o)) := by
  refine z_rd_start (by decide) (Nat.le_of_ble_eq_true rfl) ?_
  intro p e s m args below meth c Q X hr hQ
  refine z_lv (lv' := [(0, .ref q_this)]) rfl ?_
  refine z_aload_n X 0 dX6_isGiven_0 rfl rfl ?_
  refine z_get (q0 := 0) (k := 0) (ci := 7) X IR_P iw_X6 rfl qf_X6_X6_number (by decide) dX6_isGiven_1 rfl rfl ?_
  refine z_iconst X ((-1) : Int32) dX6_isGiven_4 (by decide) ?_
  refine z_icmp_eq X 12 dX6_isGiven_5 (by decide) h (fun _ h => ?_) (fun _ h => ?_)
  · refine z_iconst X (0 : Int32) dX6_isGiven_12 (by decide) ?_
    exact z_zretR X hQ hr dX6_isGiven_13 rfl h
  · refine z_iconst X (1 : Int32) dX6_isGiven_8 (by decide) ?_
    refine z_goto X 13 dX6_isGiven_9 (by decide) ?_
    exact z_zretR X hQ hr dX6_isGiven_13 rfl h

def F_X3_size (f_size : Int32) : Option (Int32) :=
  some (f_size)
theorem dX3_size_0 : decode cX3_size 0 = .ok (.aload_n 0, 1) := by decide +kernel
theorem dX3_size_1 : decode cX3_size 1 = .ok (.getfield 22, 3) := by decide +kernel
theorem dX3_size_4 : decode cX3_size 4 = .ok (.ireturn, 1) := by decide +kernel
theorem k_X3_size : cardV yX3_size (Cond.code yX3_size cX3_size 1 (some .int)) 0 := ⟨⟨qi_X3_size, qv_X3_size⟩, qc_X3_size, qn_X3, by decide +kernel, by decide +kernel, by decide +kernel⟩
set_option maxHeartbeats 4000000 in
set_option maxRecDepth 100000 in
theorem c_X3_size (l : Launch) (D : va_G) (g : Nat → ClassId) (q_this q_signs q_kinds q_numbers : Nat) (f_size : Int32) (f_count : Int32) (f_place : Int32) (f_errorPlace : Int32) (o : Int32) (h : F_X3_size f_size = some o) : MR l yX3_size (Cond.code yX3_size cX3_size 1 (some .int)) { frames := 0, cells := 0, slots := 0, locals := 0 } D g [.ref q_this] [(q_this, .inr (4, [.ref q_signs, .ref q_kinds, .ref q_numbers, .int f_size, .int f_count, .int f_place, .int f_errorPlace]))] (some (.int o)) := by
  refine z_rd_start (by decide) (Nat.le_of_ble_eq_true rfl) ?_
  intro p e s m args below meth c Q X hr hQ
  refine z_lv (lv' := [(0, .ref q_this)]) rfl ?_
  refine z_aload_n X 0 dX3_size_0 rfl rfl ?_
  refine z_get (q0 := 0) (k := 3) (ci := 4) X IR_P iw_X3 rfl qf_X3_X3_size (by decide) dX3_size_1 rfl rfl ?_
  exact z_iretR X hQ hr dX3_size_4 h

def F_X4_size (f_size : Int32) : Option (Int32) :=
  some (f_size)
theorem dX4_size_0 : decode cX4_size 0 = .ok (.aload_n 0, 1) := by decide +kernel
theorem dX4_size_1 : decode cX4_size 1 = .ok (.getfield 17, 3) := by decide +kernel
theorem dX4_size_4 : decode cX4_size 4 = .ok (.ireturn, 1) := by decide +kernel
theorem k_X4_size : cardV yX4_size (Cond.code yX4_size cX4_size 1 (some .int)) 0 := ⟨⟨qi_X4_size, qv_X4_size⟩, qc_X4_size, qn_X4, by decide +kernel, by decide +kernel, by decide +kernel⟩
set_option maxHeartbeats 4000000 in
set_option maxRecDepth 100000 in
theorem c_X4_size (l : Launch) (D : va_G) (g : Nat → ClassId) (q_this q_towns : Nat) (f_size : Int32) (f_next : Int32) (o : Int32) (h : F_X4_size f_size = some o) : MR l yX4_size (Cond.code yX4_size cX4_size 1 (some .int)) { frames := 0, cells := 0, slots := 0, locals := 0 } D g [.ref q_this] [(q_this, .inr (5, [.ref q_towns, .int f_size, .int f_next]))] (some (.int o)) := by
  refine z_rd_start (by decide) (Nat.le_of_ble_eq_true rfl) ?_
  intro p e s m args below meth c Q X hr hQ
  refine z_lv (lv' := [(0, .ref q_this)]) rfl ?_
  refine z_aload_n X 0 dX4_size_0 rfl rfl ?_
  refine z_get (q0 := 0) (k := 1) (ci := 5) X IR_P iw_X4 rfl qf_X4_X4_size (by decide) dX4_size_1 rfl rfl ?_
  exact z_iretR X hQ hr dX4_size_4 h

def F_X1_size (f_size : Int32) : Option (Int32) :=
  some (f_size)
theorem dX1_size_0 : decode cX1_size 0 = .ok (.aload_n 0, 1) := by decide +kernel
theorem dX1_size_1 : decode cX1_size 1 = .ok (.getfield 21, 3) := by decide +kernel
theorem dX1_size_4 : decode cX1_size 4 = .ok (.ireturn, 1) := by decide +kernel
theorem k_X1_size : cardV yX1_size (Cond.code yX1_size cX1_size 1 (some .int)) 0 := ⟨⟨qi_X1_size, qv_X1_size⟩, qc_X1_size, qn_X1, by decide +kernel, by decide +kernel, by decide +kernel⟩
set_option maxHeartbeats 4000000 in
set_option maxRecDepth 100000 in
theorem c_X1_size (l : Launch) (D : va_G) (g : Nat → ClassId) (q_this q_rows q_firsts q_lasts : Nat) (f_size : Int32) (o : Int32) (h : F_X1_size f_size = some o) : MR l yX1_size (Cond.code yX1_size cX1_size 1 (some .int)) { frames := 0, cells := 0, slots := 0, locals := 0 } D g [.ref q_this] [(q_this, .inr (2, [.int f_size, .ref q_rows, .ref q_firsts, .ref q_lasts]))] (some (.int o)) := by
  refine z_rd_start (by decide) (Nat.le_of_ble_eq_true rfl) ?_
  intro p e s m args below meth c Q X hr hQ
  refine z_lv (lv' := [(0, .ref q_this)]) rfl ?_
  refine z_aload_n X 0 dX1_size_0 rfl rfl ?_
  refine z_get (q0 := 0) (k := 0) (ci := 2) X IR_P iw_X1 rfl qf_X1_X1_size (by decide) dX1_size_1 rfl rfl ?_
  exact z_iretR X hQ hr dX1_size_4 h

def F_X5_size (f_size : Int32) : Option (Int32) :=
  some (f_size)
theorem dX5_size_0 : decode cX5_size 0 = .ok (.aload_n 0, 1) := by decide +kernel
theorem dX5_size_1 : decode cX5_size 1 = .ok (.getfield 18, 3) := by decide +kernel
theorem dX5_size_4 : decode cX5_size 4 = .ok (.ireturn, 1) := by decide +kernel
theorem k_X5_size : cardV yX5_size (Cond.code yX5_size cX5_size 1 (some .int)) 0 := ⟨⟨qi_X5_size, qv_X5_size⟩, qc_X5_size, qn_X5, by decide +kernel, by decide +kernel, by decide +kernel⟩
set_option maxHeartbeats 4000000 in
set_option maxRecDepth 100000 in
theorem c_X5_size (l : Launch) (D : va_G) (g : Nat → ClassId) (q_this q_cells q_tolds : Nat) (f_size : Int32) (o : Int32) (h : F_X5_size f_size = some o) : MR l yX5_size (Cond.code yX5_size cX5_size 1 (some .int)) { frames := 0, cells := 0, slots := 0, locals := 0 } D g [.ref q_this] [(q_this, .inr (6, [.int f_size, .ref q_cells, .ref q_tolds]))] (some (.int o)) := by
  refine z_rd_start (by decide) (Nat.le_of_ble_eq_true rfl) ?_
  intro p e s m args below meth c Q X hr hQ
  refine z_lv (lv' := [(0, .ref q_this)]) rfl ?_
  refine z_aload_n X 0 dX5_size_0 rfl rfl ?_
  refine z_get (q0 := 0) (k := 0) (ci := 6) X IR_P iw_X5 rfl qf_X5_X5_size (by decide) dX5_size_1 rfl rfl ?_
  exact z_iretR X hQ hr dX5_size_4 h

def L_X5_countTellers_4 (f_size : Int32) (a_tolds : Nat → Int32) : Nat → Int32 → Int32 → Option (Int32)
  | 0, _, _ => none
  | _n + 1, x1, x2 =>
    brn (f_size ≤ x2) (some (x1)) (bnd (F_X5_toldAt x2 a_tolds) (fun o1 => brn (o1 = ((-1) : Int32)) (L_X5_countTellers_4 f_size a_tolds _n x1 (x2 + 1)) (L_X5_countTellers_4 f_size a_tolds _n (x1 + 1) (x2 + 1))))

def F_X5_countTellers (f_size : Int32) (a_tolds : Nat → Int32) : Option (Int32) :=
  L_X5_countTellers_4 f_size a_tolds 100 (0 : Int32) (0 : Int32)
theorem dX5_countTellers_0 : decode cX5_countTellers 0 = .ok (.iconst 0, 1) := by decide +kernel
theorem dX5_countTellers_1 : decode cX5_countTellers 1 = .ok (.istore_n 1, 1) := by decide +kernel
theorem dX5_countTellers_2 : decode cX5_countTellers 2 = .ok (.iconst 0, 1) := by decide +kernel
theorem dX5_countTellers_3 : decode cX5_countTellers 3 = .ok (.istore_n 2, 1) := by decide +kernel
theorem dX5_countTellers_4 : decode cX5_countTellers 4 = .ok (.iload_n 2, 1) := by decide +kernel
theorem dX5_countTellers_5 : decode cX5_countTellers 5 = .ok (.aload_n 0, 1) := by decide +kernel
theorem dX5_countTellers_6 : decode cX5_countTellers 6 = .ok (.getfield 18, 3) := by decide +kernel
theorem dX5_countTellers_9 : decode cX5_countTellers 9 = .ok (.if_icmp .ge 21, 3) := by decide +kernel
theorem dX5_countTellers_12 : decode cX5_countTellers 12 = .ok (.aload_n 0, 1) := by decide +kernel
theorem dX5_countTellers_13 : decode cX5_countTellers 13 = .ok (.iload_n 2, 1) := by decide +kernel
theorem dX5_countTellers_14 : decode cX5_countTellers 14 = .ok (.invokevirtual 40, 3) := by decide +kernel
theorem dX5_countTellers_17 : decode cX5_countTellers 17 = .ok (.iconst (-1), 1) := by decide +kernel
theorem dX5_countTellers_18 : decode cX5_countTellers 18 = .ok (.if_icmp .eq 6, 3) := by decide +kernel
theorem dX5_countTellers_21 : decode cX5_countTellers 21 = .ok (.iinc 1 1, 3) := by decide +kernel
theorem dX5_countTellers_24 : decode cX5_countTellers 24 = .ok (.iinc 2 1, 3) := by decide +kernel
theorem dX5_countTellers_27 : decode cX5_countTellers 27 = .ok (.goto (-23), 3) := by decide +kernel
theorem dX5_countTellers_30 : decode cX5_countTellers 30 = .ok (.iload_n 1, 1) := by decide +kernel
theorem dX5_countTellers_31 : decode cX5_countTellers 31 = .ok (.ireturn, 1) := by decide +kernel
theorem k_X5_countTellers : cardV yX5_countTellers (Cond.code yX5_countTellers cX5_countTellers 3 (some .int)) 0 := ⟨⟨qi_X5_countTellers, qv_X5_countTellers⟩, qc_X5_countTellers, qn_X5, by decide +kernel, by decide +kernel, by decide +kernel⟩
set_option maxHeartbeats 4000000 in
set_option maxRecDepth 100000 in
theorem c_X5_countTellers (l : Launch) (D : va_G) (g : Nat → ClassId) (q_this q_cells q_tolds : Nat) (f_size : Int32) (a_tolds : Nat → Int32) (o : Int32) (h : F_X5_countTellers f_size a_tolds = some o) : MR l yX5_countTellers (Cond.code yX5_countTellers cX5_countTellers 3 (some .int)) { frames := 2, cells := 0, slots := 0, locals := 42 } D g [.ref q_this] [(q_this, .inr (6, [.int f_size, .ref q_cells, .ref q_tolds])), (q_tolds, .inl (g 0, 4, .inl a_tolds))] (some (.int o)) := by
  refine z_rd_start (by decide) (Nat.le_of_ble_eq_true rfl) ?_
  intro p e s m args below meth c Q X hr hQ
  refine z_lv (lv' := [(0, .ref q_this)]) rfl ?_
  have H4 : ∀ (n : Nat) (x1 : Int32) (x2 : Int32), L_X5_countTellers_4 f_size a_tolds  n x1 x2 = some o → Z p l e { frames := 2, cells := 0, slots := 0, locals := 42 } s m args below meth c Q 3 0 0 (IR D [(q_this, .inr (6, [.int f_size, .ref q_cells, .ref q_tolds])), (q_tolds, .inl (g 0, 4, .inl a_tolds))] s) 4 [(0, .ref q_this), (1, .int x1), (2, .int x2)] [] := by
    intro n
    induction n with
    | zero => intro x1 x2 h; cases h
    | succ n4 ih4 =>
      intro x1 x2 h
      refine z_iload_n X 2 dX5_countTellers_4 rfl rfl ?_
      refine z_aload_n X 0 dX5_countTellers_5 rfl rfl ?_
      refine z_get (q0 := 0) (k := 0) (ci := 6) X IR_P iw_X5 rfl qf_X5_X5_size (by decide) dX5_countTellers_6 rfl rfl ?_
      refine z_icmp_ge X 30 dX5_countTellers_9 (by decide) h (fun _ h => ?_) (fun _ h => ?_)
      · refine z_iload_n X 1 dX5_countTellers_30 rfl rfl ?_
        exact z_iretR X hQ hr dX5_countTellers_31 h
      · refine z_aload_n X 0 dX5_countTellers_12 rfl rfl ?_
        refine z_iload_n X 2 dX5_countTellers_13 rfl rfl ?_
        obtain ⟨o1, e2, h⟩ := bnd_p h
        refine z_rdV (rest := []) (q0 := 0) (ci := 6) X IR_P k_X5_toldAt (c_X5_toldAt l D g q_this q_cells q_tolds x2 f_size a_tolds o1 e2) ql_X5_X5_toldAt dX5_countTellers_14 [0, 1] rfl rfl rfl rfl rfl rfl ⟨Nat.le_of_ble_eq_true rfl, Nat.le_of_ble_eq_true rfl, rfl, rfl, Nat.le_of_ble_eq_true rfl, Nat.le_of_ble_eq_true rfl⟩ (Nat.le_of_ble_eq_true rfl) ?_
        refine z_iconst X ((-1) : Int32) dX5_countTellers_17 (by decide) ?_
        refine z_icmp_eq X 24 dX5_countTellers_18 (by decide) h (fun _ h => ?_) (fun _ h => ?_)
        · refine z_iinc X 2 [(2, .int (x2 + 1)), (0, .ref q_this), (1, .int x1)] dX5_countTellers_24 rfl rfl (by decide) rfl ?_
          refine z_goto X 4 dX5_countTellers_27 (by decide) ?_
          refine z_sub (lv' := [(0, .ref q_this), (1, .int x1), (2, .int (x2 + 1))]) [1, 2, 0] rfl ?_
          exact ih4 x1 (x2 + 1) h
        · refine z_iinc X 1 [(1, .int (x1 + 1)), (0, .ref q_this), (2, .int x2)] dX5_countTellers_21 rfl rfl (by decide) rfl ?_
          refine z_iinc X 2 [(2, .int (x2 + 1)), (1, .int (x1 + 1)), (0, .ref q_this)] dX5_countTellers_24 rfl rfl (by decide) rfl ?_
          refine z_goto X 4 dX5_countTellers_27 (by decide) ?_
          refine z_sub (lv' := [(0, .ref q_this), (1, .int (x1 + 1)), (2, .int (x2 + 1))]) [2, 1, 0] rfl ?_
          exact ih4 (x1 + 1) (x2 + 1) h
  refine z_iconst X (0 : Int32) dX5_countTellers_0 (by decide) ?_
  refine z_istore_n X [(1, .int (0 : Int32)), (0, .ref q_this)] dX5_countTellers_1 rfl (by decide) rfl ?_
  refine z_iconst X (0 : Int32) dX5_countTellers_2 (by decide) ?_
  refine z_istore_n X [(2, .int (0 : Int32)), (1, .int (0 : Int32)), (0, .ref q_this)] dX5_countTellers_3 rfl (by decide) rfl ?_
  refine z_sub (lv' := [(0, .ref q_this), (1, .int (0 : Int32)), (2, .int (0 : Int32))]) [2, 1, 0] rfl ?_
  exact H4 100 (0 : Int32) (0 : Int32) h

def F_X9_countOf (p1 : Int32) (f_hour : Int32) (f_day : Int32) (f_prankHouse : Int32) (f_bells : Int32) (f_echoes : Int32) (f_bellPranks : Int32) (f_houses_size : Int32) (f_halls_size : Int32) (f_posts_size : Int32) (a_posts_tolds : Nat → Int32) (a_blocks : Nat → Int32) : Option (Int32) :=
  brn (p1 = (0 : Int32)) (some (f_hour)) (brn (p1 = (1 : Int32)) (some (f_day)) (brn (p1 = (2 : Int32)) (bnd (F_X2_size f_houses_size) (fun o4 => some (o4))) (brn (p1 = (3 : Int32)) (bnd (F_X1_size f_halls_size) (fun o7 => some (o7))) (brn (p1 = (4 : Int32)) (bnd (F_X5_size f_posts_size) (fun o10 => some (o10))) (brn (p1 = (5 : Int32)) (bnd (F_X5_countTellers f_posts_size a_posts_tolds) (fun o13 => some (o13))) (brn (p1 = (6 : Int32)) (bnd (F_X9_countBlocks a_blocks) (fun o16 => some (o16))) (brn (p1 = (7 : Int32)) (some (f_bells)) (brn (p1 = (8 : Int32)) (some (f_echoes)) (brn (p1 = (9 : Int32)) (some (f_bellPranks)) (some (f_prankHouse)))))))))))
theorem dX9_countOf_0 : decode cX9_countOf 0 = .ok (.iload_n 1, 1) := by decide +kernel
theorem dX9_countOf_1 : decode cX9_countOf 1 = .ok (.tableswitch 117 0 9 #[55, 60, 65, 73, 81, 89, 97, 102, 107, 112], 55) := by decide +kernel
theorem dX9_countOf_56 : decode cX9_countOf 56 = .ok (.aload_n 0, 1) := by decide +kernel
theorem dX9_countOf_57 : decode cX9_countOf 57 = .ok (.getfield 39, 3) := by decide +kernel
theorem dX9_countOf_60 : decode cX9_countOf 60 = .ok (.ireturn, 1) := by decide +kernel
theorem dX9_countOf_61 : decode cX9_countOf 61 = .ok (.aload_n 0, 1) := by decide +kernel
theorem dX9_countOf_62 : decode cX9_countOf 62 = .ok (.getfield 43, 3) := by decide +kernel
theorem dX9_countOf_65 : decode cX9_countOf 65 = .ok (.ireturn, 1) := by decide +kernel
theorem dX9_countOf_66 : decode cX9_countOf 66 = .ok (.aload_n 0, 1) := by decide +kernel
theorem dX9_countOf_67 : decode cX9_countOf 67 = .ok (.getfield 12, 3) := by decide +kernel
theorem dX9_countOf_70 : decode cX9_countOf 70 = .ok (.invokevirtual 164, 3) := by decide +kernel
theorem dX9_countOf_73 : decode cX9_countOf 73 = .ok (.ireturn, 1) := by decide +kernel
theorem dX9_countOf_74 : decode cX9_countOf 74 = .ok (.aload_n 0, 1) := by decide +kernel
theorem dX9_countOf_75 : decode cX9_countOf 75 = .ok (.getfield 21, 3) := by decide +kernel
theorem dX9_countOf_78 : decode cX9_countOf 78 = .ok (.invokevirtual 214, 3) := by decide +kernel
theorem dX9_countOf_81 : decode cX9_countOf 81 = .ok (.ireturn, 1) := by decide +kernel
theorem dX9_countOf_82 : decode cX9_countOf 82 = .ok (.aload_n 0, 1) := by decide +kernel
theorem dX9_countOf_83 : decode cX9_countOf 83 = .ok (.getfield 28, 3) := by decide +kernel
theorem dX9_countOf_86 : decode cX9_countOf 86 = .ok (.invokevirtual 215, 3) := by decide +kernel
theorem dX9_countOf_89 : decode cX9_countOf 89 = .ok (.ireturn, 1) := by decide +kernel
theorem dX9_countOf_90 : decode cX9_countOf 90 = .ok (.aload_n 0, 1) := by decide +kernel
theorem dX9_countOf_91 : decode cX9_countOf 91 = .ok (.getfield 28, 3) := by decide +kernel
theorem dX9_countOf_94 : decode cX9_countOf 94 = .ok (.invokevirtual 216, 3) := by decide +kernel
theorem dX9_countOf_97 : decode cX9_countOf 97 = .ok (.ireturn, 1) := by decide +kernel
theorem dX9_countOf_98 : decode cX9_countOf 98 = .ok (.aload_n 0, 1) := by decide +kernel
theorem dX9_countOf_99 : decode cX9_countOf 99 = .ok (.invokevirtual 198, 3) := by decide +kernel
theorem dX9_countOf_102 : decode cX9_countOf 102 = .ok (.ireturn, 1) := by decide +kernel
theorem dX9_countOf_103 : decode cX9_countOf 103 = .ok (.aload_n 0, 1) := by decide +kernel
theorem dX9_countOf_104 : decode cX9_countOf 104 = .ok (.getfield 49, 3) := by decide +kernel
theorem dX9_countOf_107 : decode cX9_countOf 107 = .ok (.ireturn, 1) := by decide +kernel
theorem dX9_countOf_108 : decode cX9_countOf 108 = .ok (.aload_n 0, 1) := by decide +kernel
theorem dX9_countOf_109 : decode cX9_countOf 109 = .ok (.getfield 52, 3) := by decide +kernel
theorem dX9_countOf_112 : decode cX9_countOf 112 = .ok (.ireturn, 1) := by decide +kernel
theorem dX9_countOf_113 : decode cX9_countOf 113 = .ok (.aload_n 0, 1) := by decide +kernel
theorem dX9_countOf_114 : decode cX9_countOf 114 = .ok (.getfield 55, 3) := by decide +kernel
theorem dX9_countOf_117 : decode cX9_countOf 117 = .ok (.ireturn, 1) := by decide +kernel
theorem dX9_countOf_118 : decode cX9_countOf 118 = .ok (.aload_n 0, 1) := by decide +kernel
theorem dX9_countOf_119 : decode cX9_countOf 119 = .ok (.getfield 46, 3) := by decide +kernel
theorem dX9_countOf_122 : decode cX9_countOf 122 = .ok (.ireturn, 1) := by decide +kernel
theorem k_X9_countOf : cardV yX9_countOf (Cond.code yX9_countOf cX9_countOf 2 (some .int)) 1 := ⟨⟨qi_X9_countOf, qv_X9_countOf⟩, qc_X9_countOf, qn_X9, by decide +kernel, by decide +kernel, by decide +kernel⟩
set_option maxHeartbeats 4000000 in
set_option maxRecDepth 100000 in
theorem c_X9_countOf (l : Launch) (D : va_G) (g : Nat → ClassId) (q_this q_houses q_halls q_posts q_blocks q_kinds q_houses_cells q_houses_froms q_houses_tos q_houses_rings q_houses_pranks q_halls_rows q_halls_firsts q_halls_lasts q_posts_cells q_posts_tolds : Nat) (p1 : Int32) (f_hour : Int32) (f_day : Int32) (f_prankHouse : Int32) (f_bells : Int32) (f_echoes : Int32) (f_bellPranks : Int32) (f_houses_size : Int32) (f_halls_size : Int32) (f_posts_size : Int32) (a_posts_tolds : Nat → Int32) (a_blocks : Nat → Int32) (o : Int32) (h : F_X9_countOf p1 f_hour f_day f_prankHouse f_bells f_echoes f_bellPranks f_houses_size f_halls_size f_posts_size a_posts_tolds a_blocks = some o) : MR l yX9_countOf (Cond.code yX9_countOf cX9_countOf 2 (some .int)) { frames := 3, cells := 0, slots := 0, locals := 64 } D g [.ref q_this, .int p1] [(q_this, .inr (9, [.ref q_houses, .ref q_halls, .ref q_posts, .ref q_blocks, .ref q_kinds, .int f_hour, .int f_day, .int f_prankHouse, .int f_bells, .int f_echoes, .int f_bellPranks])), (q_houses, .inr (3, [.int f_houses_size, .ref q_houses_cells, .ref q_houses_froms, .ref q_houses_tos, .ref q_houses_rings, .ref q_houses_pranks])), (q_halls, .inr (2, [.int f_halls_size, .ref q_halls_rows, .ref q_halls_firsts, .ref q_halls_lasts])), (q_posts, .inr (6, [.int f_posts_size, .ref q_posts_cells, .ref q_posts_tolds])), (q_posts_tolds, .inl (g 0, 4, .inl a_posts_tolds)), (q_blocks, .inl (g 0, 64, .inl a_blocks))] (some (.int o)) := by
  refine z_rd_start (by decide) (Nat.le_of_ble_eq_true rfl) ?_
  intro p e s m args below meth c Q X hr hQ
  refine z_lv (lv' := [(0, .ref q_this), (1, .int p1)]) rfl ?_
  refine z_iload_n X 1 dX9_countOf_0 rfl rfl ?_
  by_cases n1 : p1 = (0 : Int32)
  · have h := brn_t h n1
    refine z_tin (off := 55) 56 X dX9_countOf_1 (sw_eq (k := 0) n1 (by decide)) (by decide) (by decide) (by decide) (by decide) ?_
    refine z_aload_n X 0 dX9_countOf_56 rfl rfl ?_
    refine z_get (q0 := 0) (k := 5) (ci := 9) X IR_P iw_X9 rfl qf_X9_X9_hour (by decide) dX9_countOf_57 rfl rfl ?_
    exact z_iretR X hQ hr dX9_countOf_60 h
  have h := brn_f h n1
  by_cases n2 : p1 = (1 : Int32)
  · have h := brn_t h n2
    refine z_tin (off := 60) 61 X dX9_countOf_1 (sw_eq (k := 1) n2 (by decide)) (by decide) (by decide) (by decide) (by decide) ?_
    refine z_aload_n X 0 dX9_countOf_61 rfl rfl ?_
    refine z_get (q0 := 0) (k := 6) (ci := 9) X IR_P iw_X9 rfl qf_X9_X9_day (by decide) dX9_countOf_62 rfl rfl ?_
    exact z_iretR X hQ hr dX9_countOf_65 h
  have h := brn_f h n2
  by_cases n3 : p1 = (2 : Int32)
  · have h := brn_t h n3
    refine z_tin (off := 65) 66 X dX9_countOf_1 (sw_eq (k := 2) n3 (by decide)) (by decide) (by decide) (by decide) (by decide) ?_
    refine z_aload_n X 0 dX9_countOf_66 rfl rfl ?_
    refine z_get (q0 := 0) (k := 0) (ci := 9) X IR_P iw_X9 rfl qf_X9_X9_houses (by decide) dX9_countOf_67 rfl rfl ?_
    obtain ⟨o4, e5, h⟩ := bnd_p h
    refine z_rdV (rest := []) (q0 := 1) (ci := 3) X IR_P k_X2_size (c_X2_size l D g q_houses q_houses_cells q_houses_froms q_houses_tos q_houses_rings q_houses_pranks f_houses_size o4 e5) ql_X9_X2_size dX9_countOf_70 [1] rfl rfl rfl rfl rfl rfl ⟨Nat.le_of_ble_eq_true rfl, Nat.le_of_ble_eq_true rfl, rfl, rfl, Nat.le_of_ble_eq_true rfl, Nat.le_of_ble_eq_true rfl⟩ (Nat.le_of_ble_eq_true rfl) ?_
    exact z_iretR X hQ hr dX9_countOf_73 h
  have h := brn_f h n3
  by_cases n6 : p1 = (3 : Int32)
  · have h := brn_t h n6
    refine z_tin (off := 73) 74 X dX9_countOf_1 (sw_eq (k := 3) n6 (by decide)) (by decide) (by decide) (by decide) (by decide) ?_
    refine z_aload_n X 0 dX9_countOf_74 rfl rfl ?_
    refine z_get (q0 := 0) (k := 1) (ci := 9) X IR_P iw_X9 rfl qf_X9_X9_halls (by decide) dX9_countOf_75 rfl rfl ?_
    obtain ⟨o7, e8, h⟩ := bnd_p h
    refine z_rdV (rest := []) (q0 := 2) (ci := 2) X IR_P k_X1_size (c_X1_size l D g q_halls q_halls_rows q_halls_firsts q_halls_lasts f_halls_size o7 e8) ql_X9_X1_size dX9_countOf_78 [2] rfl rfl rfl rfl rfl rfl ⟨Nat.le_of_ble_eq_true rfl, Nat.le_of_ble_eq_true rfl, rfl, rfl, Nat.le_of_ble_eq_true rfl, Nat.le_of_ble_eq_true rfl⟩ (Nat.le_of_ble_eq_true rfl) ?_
    exact z_iretR X hQ hr dX9_countOf_81 h
  have h := brn_f h n6
  by_cases n9 : p1 = (4 : Int32)
  · have h := brn_t h n9
    refine z_tin (off := 81) 82 X dX9_countOf_1 (sw_eq (k := 4) n9 (by decide)) (by decide) (by decide) (by decide) (by decide) ?_
    refine z_aload_n X 0 dX9_countOf_82 rfl rfl ?_
    refine z_get (q0 := 0) (k := 2) (ci := 9) X IR_P iw_X9 rfl qf_X9_X9_posts (by decide) dX9_countOf_83 rfl rfl ?_
    obtain ⟨o10, e11, h⟩ := bnd_p h
    refine z_rdV (rest := []) (q0 := 3) (ci := 6) X IR_P k_X5_size (c_X5_size l D g q_posts q_posts_cells q_posts_tolds f_posts_size o10 e11) ql_X9_X5_size dX9_countOf_86 [3] rfl rfl rfl rfl rfl rfl ⟨Nat.le_of_ble_eq_true rfl, Nat.le_of_ble_eq_true rfl, rfl, rfl, Nat.le_of_ble_eq_true rfl, Nat.le_of_ble_eq_true rfl⟩ (Nat.le_of_ble_eq_true rfl) ?_
    exact z_iretR X hQ hr dX9_countOf_89 h
  have h := brn_f h n9
  by_cases n12 : p1 = (5 : Int32)
  · have h := brn_t h n12
    refine z_tin (off := 89) 90 X dX9_countOf_1 (sw_eq (k := 5) n12 (by decide)) (by decide) (by decide) (by decide) (by decide) ?_
    refine z_aload_n X 0 dX9_countOf_90 rfl rfl ?_
    refine z_get (q0 := 0) (k := 2) (ci := 9) X IR_P iw_X9 rfl qf_X9_X9_posts (by decide) dX9_countOf_91 rfl rfl ?_
    obtain ⟨o13, e14, h⟩ := bnd_p h
    refine z_rdV (rest := []) (q0 := 3) (ci := 6) X IR_P k_X5_countTellers (c_X5_countTellers l D g q_posts q_posts_cells q_posts_tolds f_posts_size a_posts_tolds o13 e14) ql_X9_X5_countTellers dX9_countOf_94 [3, 4] rfl rfl rfl rfl rfl rfl ⟨Nat.le_of_ble_eq_true rfl, Nat.le_of_ble_eq_true rfl, rfl, rfl, Nat.le_of_ble_eq_true rfl, Nat.le_of_ble_eq_true rfl⟩ (Nat.le_of_ble_eq_true rfl) ?_
    exact z_iretR X hQ hr dX9_countOf_97 h
  have h := brn_f h n12
  by_cases n15 : p1 = (6 : Int32)
  · have h := brn_t h n15
    refine z_tin (off := 97) 98 X dX9_countOf_1 (sw_eq (k := 6) n15 (by decide)) (by decide) (by decide) (by decide) (by decide) ?_
    refine z_aload_n X 0 dX9_countOf_98 rfl rfl ?_
    obtain ⟨o16, e17, h⟩ := bnd_p h
    refine z_rdV (rest := []) (q0 := 0) (ci := 9) X IR_P k_X9_countBlocks (c_X9_countBlocks l D g q_this q_houses q_halls q_posts q_blocks q_kinds f_hour f_day f_prankHouse f_bells f_echoes f_bellPranks a_blocks o16 e17) ql_X9_X9_countBlocks dX9_countOf_99 [0, 5] rfl rfl rfl rfl rfl rfl ⟨Nat.le_of_ble_eq_true rfl, Nat.le_of_ble_eq_true rfl, rfl, rfl, Nat.le_of_ble_eq_true rfl, Nat.le_of_ble_eq_true rfl⟩ (Nat.le_of_ble_eq_true rfl) ?_
    exact z_iretR X hQ hr dX9_countOf_102 h
  have h := brn_f h n15
  by_cases n18 : p1 = (7 : Int32)
  · have h := brn_t h n18
    refine z_tin (off := 102) 103 X dX9_countOf_1 (sw_eq (k := 7) n18 (by decide)) (by decide) (by decide) (by decide) (by decide) ?_
    refine z_aload_n X 0 dX9_countOf_103 rfl rfl ?_
    refine z_get (q0 := 0) (k := 8) (ci := 9) X IR_P iw_X9 rfl qf_X9_X9_bells (by decide) dX9_countOf_104 rfl rfl ?_
    exact z_iretR X hQ hr dX9_countOf_107 h
  have h := brn_f h n18
  by_cases n19 : p1 = (8 : Int32)
  · have h := brn_t h n19
    refine z_tin (off := 107) 108 X dX9_countOf_1 (sw_eq (k := 8) n19 (by decide)) (by decide) (by decide) (by decide) (by decide) ?_
    refine z_aload_n X 0 dX9_countOf_108 rfl rfl ?_
    refine z_get (q0 := 0) (k := 9) (ci := 9) X IR_P iw_X9 rfl qf_X9_X9_echoes (by decide) dX9_countOf_109 rfl rfl ?_
    exact z_iretR X hQ hr dX9_countOf_112 h
  have h := brn_f h n19
  by_cases n20 : p1 = (9 : Int32)
  · have h := brn_t h n20
    refine z_tin (off := 112) 113 X dX9_countOf_1 (sw_eq (k := 9) n20 (by decide)) (by decide) (by decide) (by decide) (by decide) ?_
    refine z_aload_n X 0 dX9_countOf_113 rfl rfl ?_
    refine z_get (q0 := 0) (k := 10) (ci := 9) X IR_P iw_X9 rfl qf_X9_X9_bellPranks (by decide) dX9_countOf_114 rfl rfl ?_
    exact z_iretR X hQ hr dX9_countOf_117 h
  have h := brn_f h n20
  refine z_tdef 118 [0, 1, 2, 3, 4, 5, 6, 7, 8, 9] X dX9_countOf_1 (by decide) (by decide) (List.forall_mem_cons.mpr ⟨sw_ne n1 (by decide), List.forall_mem_cons.mpr ⟨sw_ne n2 (by decide), List.forall_mem_cons.mpr ⟨sw_ne n3 (by decide), List.forall_mem_cons.mpr ⟨sw_ne n6 (by decide), List.forall_mem_cons.mpr ⟨sw_ne n9 (by decide), List.forall_mem_cons.mpr ⟨sw_ne n12 (by decide), List.forall_mem_cons.mpr ⟨sw_ne n15 (by decide), List.forall_mem_cons.mpr ⟨sw_ne n18 (by decide), List.forall_mem_cons.mpr ⟨sw_ne n19 (by decide), List.forall_mem_cons.mpr ⟨sw_ne n20 (by decide), fun _ hk => absurd hk List.not_mem_nil⟩⟩⟩⟩⟩⟩⟩⟩⟩⟩) (by decide) ?_
  refine z_aload_n X 0 dX9_countOf_118 rfl rfl ?_
  refine z_get (q0 := 0) (k := 7) (ci := 9) X IR_P iw_X9 rfl qf_X9_X9_prankHouse (by decide) dX9_countOf_119 rfl rfl ?_
  exact z_iretR X hQ hr dX9_countOf_122 h

def L_X2_areSleepersAlike_2 (f_size : Int32) (a_froms : Nat → Int32) (a_tos : Nat → Int32) : Nat → Int32 → Option (Int32)
  | 0, _ => none
  | _n + 1, x1 =>
    brn ((24 : Int32) ≤ x1) (some ((1 : Int32))) (bnd (F_X2_sleepers x1 f_size a_froms a_tos) (fun o1 => bnd (F_X2_sleepersByTurns x1 f_size a_froms a_tos) (fun o3 => brn (o1 = o3) (L_X2_areSleepersAlike_2 f_size a_froms a_tos _n (x1 + 1)) (some ((0 : Int32))))))

def F_X2_areSleepersAlike (f_size : Int32) (a_froms : Nat → Int32) (a_tos : Nat → Int32) : Option (Int32) :=
  L_X2_areSleepersAlike_2 f_size a_froms a_tos 100 (0 : Int32)
theorem dX2_areSleepersAlike_0 : decode cX2_areSleepersAlike 0 = .ok (.iconst 0, 1) := by decide +kernel
theorem dX2_areSleepersAlike_1 : decode cX2_areSleepersAlike 1 = .ok (.istore_n 1, 1) := by decide +kernel
theorem dX2_areSleepersAlike_2 : decode cX2_areSleepersAlike 2 = .ok (.iload_n 1, 1) := by decide +kernel
theorem dX2_areSleepersAlike_3 : decode cX2_areSleepersAlike 3 = .ok (.bipush 24, 2) := by decide +kernel
theorem dX2_areSleepersAlike_5 : decode cX2_areSleepersAlike 5 = .ok (.if_icmp .ge 24, 3) := by decide +kernel
theorem dX2_areSleepersAlike_8 : decode cX2_areSleepersAlike 8 = .ok (.aload_n 0, 1) := by decide +kernel
theorem dX2_areSleepersAlike_9 : decode cX2_areSleepersAlike 9 = .ok (.iload_n 1, 1) := by decide +kernel
theorem dX2_areSleepersAlike_10 : decode cX2_areSleepersAlike 10 = .ok (.invokevirtual 72, 3) := by decide +kernel
theorem dX2_areSleepersAlike_13 : decode cX2_areSleepersAlike 13 = .ok (.aload_n 0, 1) := by decide +kernel
theorem dX2_areSleepersAlike_14 : decode cX2_areSleepersAlike 14 = .ok (.iload_n 1, 1) := by decide +kernel
theorem dX2_areSleepersAlike_15 : decode cX2_areSleepersAlike 15 = .ok (.invokevirtual 75, 3) := by decide +kernel
theorem dX2_areSleepersAlike_18 : decode cX2_areSleepersAlike 18 = .ok (.if_icmp .eq 5, 3) := by decide +kernel
theorem dX2_areSleepersAlike_21 : decode cX2_areSleepersAlike 21 = .ok (.iconst 0, 1) := by decide +kernel
theorem dX2_areSleepersAlike_22 : decode cX2_areSleepersAlike 22 = .ok (.ireturn, 1) := by decide +kernel
theorem dX2_areSleepersAlike_23 : decode cX2_areSleepersAlike 23 = .ok (.iinc 1 1, 3) := by decide +kernel
theorem dX2_areSleepersAlike_26 : decode cX2_areSleepersAlike 26 = .ok (.goto (-24), 3) := by decide +kernel
theorem dX2_areSleepersAlike_29 : decode cX2_areSleepersAlike 29 = .ok (.iconst 1, 1) := by decide +kernel
theorem dX2_areSleepersAlike_30 : decode cX2_areSleepersAlike 30 = .ok (.ireturn, 1) := by decide +kernel
theorem k_X2_areSleepersAlike : cardV yX2_areSleepersAlike (Cond.code yX2_areSleepersAlike cX2_areSleepersAlike 2 (some .boolean)) 0 := ⟨⟨qi_X2_areSleepersAlike, qv_X2_areSleepersAlike⟩, qc_X2_areSleepersAlike, qn_X2, by decide +kernel, by decide +kernel, by decide +kernel⟩
set_option maxHeartbeats 4000000 in
set_option maxRecDepth 100000 in
theorem c_X2_areSleepersAlike (l : Launch) (D : va_G) (g : Nat → ClassId) (q_this q_cells q_froms q_tos q_rings q_pranks : Nat) (f_size : Int32) (a_froms : Nat → Int32) (a_tos : Nat → Int32) (o : Int32) (h : F_X2_areSleepersAlike f_size a_froms a_tos = some o) : MR l yX2_areSleepersAlike (Cond.code yX2_areSleepersAlike cX2_areSleepersAlike 2 (some .boolean)) { frames := 4, cells := 0, slots := 0, locals := 88 } D g [.ref q_this] [(q_this, .inr (3, [.int f_size, .ref q_cells, .ref q_froms, .ref q_tos, .ref q_rings, .ref q_pranks])), (q_froms, .inl (g 0, 10, .inl a_froms)), (q_tos, .inl (g 0, 10, .inl a_tos))] (some (.int o)) := by
  refine z_rd_start (by decide) (Nat.le_of_ble_eq_true rfl) ?_
  intro p e s m args below meth c Q X hr hQ
  refine z_lv (lv' := [(0, .ref q_this)]) rfl ?_
  have H2 : ∀ (n : Nat) (x1 : Int32), L_X2_areSleepersAlike_2 f_size a_froms a_tos  n x1 = some o → Z p l e { frames := 4, cells := 0, slots := 0, locals := 88 } s m args below meth c Q 2 0 0 (IR D [(q_this, .inr (3, [.int f_size, .ref q_cells, .ref q_froms, .ref q_tos, .ref q_rings, .ref q_pranks])), (q_froms, .inl (g 0, 10, .inl a_froms)), (q_tos, .inl (g 0, 10, .inl a_tos))] s) 2 [(0, .ref q_this), (1, .int x1)] [] := by
    intro n
    induction n with
    | zero => intro x1 h; cases h
    | succ n2 ih2 =>
      intro x1 h
      refine z_iload_n X 1 dX2_areSleepersAlike_2 rfl rfl ?_
      refine z_bipush X (24 : Int32) dX2_areSleepersAlike_3 (by decide) ?_
      refine z_icmp_ge X 29 dX2_areSleepersAlike_5 (by decide) h (fun _ h => ?_) (fun _ h => ?_)
      · refine z_iconst X (1 : Int32) dX2_areSleepersAlike_29 (by decide) ?_
        exact z_zretR X hQ hr dX2_areSleepersAlike_30 rfl h
      · refine z_aload_n X 0 dX2_areSleepersAlike_8 rfl rfl ?_
        refine z_iload_n X 1 dX2_areSleepersAlike_9 rfl rfl ?_
        obtain ⟨o1, e2, h⟩ := bnd_p h
        refine z_rdV (rest := []) (q0 := 0) (ci := 3) X IR_P k_X2_sleepers (c_X2_sleepers l D g q_this q_cells q_froms q_tos q_rings q_pranks x1 f_size a_froms a_tos o1 e2) ql_X2_X2_sleepers dX2_areSleepersAlike_10 [0, 1, 2] rfl rfl rfl rfl rfl rfl ⟨Nat.le_of_ble_eq_true rfl, Nat.le_of_ble_eq_true rfl, rfl, rfl, Nat.le_of_ble_eq_true rfl, Nat.le_of_ble_eq_true rfl⟩ (Nat.le_of_ble_eq_true rfl) ?_
        refine z_aload_n X 0 dX2_areSleepersAlike_13 rfl rfl ?_
        refine z_iload_n X 1 dX2_areSleepersAlike_14 rfl rfl ?_
        obtain ⟨o3, e4, h⟩ := bnd_p h
        refine z_rdV (rest := [.int o1]) (q0 := 0) (ci := 3) X IR_P k_X2_sleepersByTurns (c_X2_sleepersByTurns l D g q_this q_cells q_froms q_tos q_rings q_pranks x1 f_size a_froms a_tos o3 e4) ql_X2_X2_sleepersByTurns dX2_areSleepersAlike_15 [0, 1, 2] rfl rfl rfl rfl rfl rfl ⟨Nat.le_of_ble_eq_true rfl, Nat.le_of_ble_eq_true rfl, rfl, rfl, Nat.le_of_ble_eq_true rfl, Nat.le_of_ble_eq_true rfl⟩ (Nat.le_of_ble_eq_true rfl) ?_
        refine z_icmp_eq X 23 dX2_areSleepersAlike_18 (by decide) h (fun _ h => ?_) (fun _ h => ?_)
        · refine z_iinc X 1 [(1, .int (x1 + 1)), (0, .ref q_this)] dX2_areSleepersAlike_23 rfl rfl (by decide) rfl ?_
          refine z_goto X 2 dX2_areSleepersAlike_26 (by decide) ?_
          refine z_sub (lv' := [(0, .ref q_this), (1, .int (x1 + 1))]) [1, 0] rfl ?_
          exact ih2 (x1 + 1) h
        · refine z_iconst X (0 : Int32) dX2_areSleepersAlike_21 (by decide) ?_
          exact z_zretR X hQ hr dX2_areSleepersAlike_22 rfl h
  refine z_iconst X (0 : Int32) dX2_areSleepersAlike_0 (by decide) ?_
  refine z_istore_n X [(1, .int (0 : Int32)), (0, .ref q_this)] dX2_areSleepersAlike_1 rfl (by decide) rfl ?_
  refine z_sub (lv' := [(0, .ref q_this), (1, .int (0 : Int32))]) [1, 0] rfl ?_
  exact H2 100 (0 : Int32) h
