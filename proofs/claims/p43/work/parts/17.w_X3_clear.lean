def F_X3_clear (f_size : Int32) : Option (Int32) :=
  some ((0 : Int32))
theorem dX3_clear_0 : decode cX3_clear 0 = .ok (.aload_n 0, 1) := by decide +kernel
theorem dX3_clear_1 : decode cX3_clear 1 = .ok (.iconst 0, 1) := by decide +kernel
theorem dX3_clear_2 : decode cX3_clear 2 = .ok (.putfield 22, 3) := by decide +kernel
theorem dX3_clear_5 : decode cX3_clear 5 = .ok (.return_, 1) := by decide +kernel
theorem k_X3_clear : cardV yX3_clear (Cond.code yX3_clear cX3_clear 1 none) 0 := ⟨⟨qi_X3_clear, qv_X3_clear⟩, qc_X3_clear, qn_X3, by decide +kernel, by decide +kernel, by decide +kernel⟩
set_option maxHeartbeats 4000000 in
set_option maxRecDepth 100000 in
theorem c_X3_clear (l : Launch) (D : va_G) (g : Nat → ClassId) (q_this q_signs q_kinds q_numbers : Nat) (f_size : Int32) (f_count : Int32) (f_place : Int32) (f_errorPlace : Int32) (o : Int32) (h : F_X3_clear f_size = some o) : MW l yX3_clear (Cond.code yX3_clear cX3_clear 1 none) { frames := 0, cells := 0, slots := 0, locals := 0 } D g [.ref q_this] [(q_this, .inr (4, [.ref q_signs, .ref q_kinds, .ref q_numbers, .int f_size, .int f_count, .int f_place, .int f_errorPlace]))] none [(q_this, .inr (4, [.ref q_signs, .ref q_kinds, .ref q_numbers, .int o, .int f_count, .int f_place, .int f_errorPlace]))] := by
  refine z_wr_start (by decide) (Nat.le_of_ble_eq_true rfl) ?_
  intro p e s m args below meth c Q A X hr hQ hA
  refine z_lv (lv' := [(0, .ref q_this)]) rfl ?_
  refine z_aload_n X 0 dX3_clear_0 rfl rfl ?_
  refine z_iconst X (0 : Int32) dX3_clear_1 (by decide) ?_
  refine z_put (q0 := 0) (k := 3) (ci := 4) (ws' := [(q_this, .inr (4, [.ref q_signs, .ref q_kinds, .ref q_numbers, .int (0 : Int32), .int f_count, .int f_place, .int f_errorPlace]))]) X iw_X3 tyX3_ok nmX3 rfl qf_X3_X3_size (by decide) rfl rfl dX3_clear_2 rfl rfl rfl (Nat.le_of_ble_eq_true rfl) rfl ?_
  cases h
  exact z_vretW X hQ hA hr dX3_clear_5

def F_X3_count (f_count : Int32) : Option (Int32) :=
  some (f_count)
theorem dX3_count_0 : decode cX3_count 0 = .ok (.aload_n 0, 1) := by decide +kernel
theorem dX3_count_1 : decode cX3_count 1 = .ok (.getfield 26, 3) := by decide +kernel
theorem dX3_count_4 : decode cX3_count 4 = .ok (.ireturn, 1) := by decide +kernel
theorem k_X3_count : cardV yX3_count (Cond.code yX3_count cX3_count 1 (some .int)) 0 := ⟨⟨qi_X3_count, qv_X3_count⟩, qc_X3_count, qn_X3, by decide +kernel, by decide +kernel, by decide +kernel⟩
set_option maxHeartbeats 4000000 in
set_option maxRecDepth 100000 in
theorem c_X3_count (l : Launch) (D : va_G) (g : Nat → ClassId) (q_this q_signs q_kinds q_numbers : Nat) (f_size : Int32) (f_count : Int32) (f_place : Int32) (f_errorPlace : Int32) (o : Int32) (h : F_X3_count f_count = some o) : MR l yX3_count (Cond.code yX3_count cX3_count 1 (some .int)) { frames := 0, cells := 0, slots := 0, locals := 0 } D g [.ref q_this] [(q_this, .inr (4, [.ref q_signs, .ref q_kinds, .ref q_numbers, .int f_size, .int f_count, .int f_place, .int f_errorPlace]))] (some (.int o)) := by
  refine z_rd_start (by decide) (Nat.le_of_ble_eq_true rfl) ?_
  intro p e s m args below meth c Q X hr hQ
  refine z_lv (lv' := [(0, .ref q_this)]) rfl ?_
  refine z_aload_n X 0 dX3_count_0 rfl rfl ?_
  refine z_get (q0 := 0) (k := 4) (ci := 4) X IR_P iw_X3 rfl qf_X3_X3_count (by decide) dX3_count_1 rfl rfl ?_
  exact z_iretR X hQ hr dX3_count_4 h

def F_X3_numberAt (p1 : Int32) (p2 : Int32) (a_numbers : Nat → Int32) : Option (Int32) :=
  bnd (F_X7_at 180 (((3 : Int32) * p1) + p2) a_numbers) (fun o1 => some (o1))
theorem dX3_numberAt_0 : decode cX3_numberAt 0 = .ok (.aload_n 0, 1) := by decide +kernel
theorem dX3_numberAt_1 : decode cX3_numberAt 1 = .ok (.getfield 19, 3) := by decide +kernel
theorem dX3_numberAt_4 : decode cX3_numberAt 4 = .ok (.iconst 3, 1) := by decide +kernel
theorem dX3_numberAt_5 : decode cX3_numberAt 5 = .ok (.iload_n 1, 1) := by decide +kernel
theorem dX3_numberAt_6 : decode cX3_numberAt 6 = .ok (.imul, 1) := by decide +kernel
theorem dX3_numberAt_7 : decode cX3_numberAt 7 = .ok (.iload_n 2, 1) := by decide +kernel
theorem dX3_numberAt_8 : decode cX3_numberAt 8 = .ok (.iadd, 1) := by decide +kernel
theorem dX3_numberAt_9 : decode cX3_numberAt 9 = .ok (.invokestatic 35, 3) := by decide +kernel
theorem dX3_numberAt_12 : decode cX3_numberAt 12 = .ok (.ireturn, 1) := by decide +kernel
theorem k_X3_numberAt : cardV yX3_numberAt (Cond.code yX3_numberAt cX3_numberAt 3 (some .int)) 2 := ⟨⟨qi_X3_numberAt, qv_X3_numberAt⟩, qc_X3_numberAt, qn_X3, by decide +kernel, by decide +kernel, by decide +kernel⟩
set_option maxHeartbeats 4000000 in
set_option maxRecDepth 100000 in
theorem c_X3_numberAt (l : Launch) (D : va_G) (g : Nat → ClassId) (q_this q_signs q_kinds q_numbers : Nat) (p1 p2 : Int32) (f_size : Int32) (f_count : Int32) (f_place : Int32) (f_errorPlace : Int32) (a_numbers : Nat → Int32) (o : Int32) (h : F_X3_numberAt p1 p2 a_numbers = some o) : MR l yX3_numberAt (Cond.code yX3_numberAt cX3_numberAt 3 (some .int)) { frames := 1, cells := 0, slots := 0, locals := 21 } D g [.ref q_this, .int p1, .int p2] [(q_this, .inr (4, [.ref q_signs, .ref q_kinds, .ref q_numbers, .int f_size, .int f_count, .int f_place, .int f_errorPlace])), (q_numbers, .inl (g 0, 180, .inl a_numbers))] (some (.int o)) := by
  refine z_rd_start (by decide) (Nat.le_of_ble_eq_true rfl) ?_
  intro p e s m args below meth c Q X hr hQ
  refine z_lv (lv' := [(0, .ref q_this), (1, .int p1), (2, .int p2)]) rfl ?_
  refine z_aload_n X 0 dX3_numberAt_0 rfl rfl ?_
  refine z_get (q0 := 0) (k := 2) (ci := 4) X IR_P iw_X3 rfl qf_X3_X3_numbers (by decide) dX3_numberAt_1 rfl rfl ?_
  refine z_iconst X (3 : Int32) dX3_numberAt_4 (by decide) ?_
  refine z_iload_n X 1 dX3_numberAt_5 rfl rfl ?_
  refine z_imul X dX3_numberAt_6 ?_
  refine z_iload_n X 2 dX3_numberAt_7 rfl rfl ?_
  refine z_iadd X dX3_numberAt_8 ?_
  obtain ⟨o1, e2, h⟩ := bnd_p h
  refine z_rdS (rest := []) X IR_P k_X7_at (c_X7_at l D g q_numbers 180 (((3 : Int32) * p1) + p2) a_numbers o1 e2) ql_X3_X7_at dX3_numberAt_9 [1] rfl rfl rfl ⟨Nat.le_of_ble_eq_true rfl, Nat.le_of_ble_eq_true rfl, rfl, rfl, Nat.le_of_ble_eq_true rfl, Nat.le_of_ble_eq_true rfl⟩ (Nat.le_of_ble_eq_true rfl) ?_
  exact z_iretR X hQ hr dX3_numberAt_12 h

def F_X3_kindAt (p1 : Int32) (a_kinds : Nat → Int32) : Option (Int32) :=
  bnd (F_X7_at 60 p1 a_kinds) (fun o1 => some (o1))
theorem dX3_kindAt_0 : decode cX3_kindAt 0 = .ok (.aload_n 0, 1) := by decide +kernel
theorem dX3_kindAt_1 : decode cX3_kindAt 1 = .ok (.getfield 15, 3) := by decide +kernel
theorem dX3_kindAt_4 : decode cX3_kindAt 4 = .ok (.iload_n 1, 1) := by decide +kernel
theorem dX3_kindAt_5 : decode cX3_kindAt 5 = .ok (.invokestatic 35, 3) := by decide +kernel
theorem dX3_kindAt_8 : decode cX3_kindAt 8 = .ok (.ireturn, 1) := by decide +kernel
theorem k_X3_kindAt : cardV yX3_kindAt (Cond.code yX3_kindAt cX3_kindAt 2 (some .int)) 1 := ⟨⟨qi_X3_kindAt, qv_X3_kindAt⟩, qc_X3_kindAt, qn_X3, by decide +kernel, by decide +kernel, by decide +kernel⟩
set_option maxHeartbeats 4000000 in
set_option maxRecDepth 100000 in
theorem c_X3_kindAt (l : Launch) (D : va_G) (g : Nat → ClassId) (q_this q_signs q_kinds q_numbers : Nat) (p1 : Int32) (f_size : Int32) (f_count : Int32) (f_place : Int32) (f_errorPlace : Int32) (a_kinds : Nat → Int32) (o : Int32) (h : F_X3_kindAt p1 a_kinds = some o) : MR l yX3_kindAt (Cond.code yX3_kindAt cX3_kindAt 2 (some .int)) { frames := 1, cells := 0, slots := 0, locals := 21 } D g [.ref q_this, .int p1] [(q_this, .inr (4, [.ref q_signs, .ref q_kinds, .ref q_numbers, .int f_size, .int f_count, .int f_place, .int f_errorPlace])), (q_kinds, .inl (g 0, 60, .inl a_kinds))] (some (.int o)) := by
  refine z_rd_start (by decide) (Nat.le_of_ble_eq_true rfl) ?_
  intro p e s m args below meth c Q X hr hQ
  refine z_lv (lv' := [(0, .ref q_this), (1, .int p1)]) rfl ?_
  refine z_aload_n X 0 dX3_kindAt_0 rfl rfl ?_
  refine z_get (q0 := 0) (k := 1) (ci := 4) X IR_P iw_X3 rfl qf_X3_X3_kinds (by decide) dX3_kindAt_1 rfl rfl ?_
  refine z_iload_n X 1 dX3_kindAt_4 rfl rfl ?_
  obtain ⟨o1, e2, h⟩ := bnd_p h
  refine z_rdS (rest := []) X IR_P k_X7_at (c_X7_at l D g q_kinds 60 p1 a_kinds o1 e2) ql_X3_X7_at dX3_kindAt_5 [1] rfl rfl rfl ⟨Nat.le_of_ble_eq_true rfl, Nat.le_of_ble_eq_true rfl, rfl, rfl, Nat.le_of_ble_eq_true rfl, Nat.le_of_ble_eq_true rfl⟩ (Nat.le_of_ble_eq_true rfl) ?_
  exact z_iretR X hQ hr dX3_kindAt_8 h

def F_X11_judgeOrder (p1 : Int32) (p2 : Int32) (p3 : Int32) (p4 : Int32) (f_town_prankHouse : Int32) (f_town_houses_size : Int32) (a_town_houses_cells : Nat → Int32) (f_town_halls_size : Int32) (a_town_halls_rows : Nat → Int32) (a_town_halls_firsts : Nat → Int32) (a_town_halls_lasts : Nat → Int32) (f_town_posts_size : Int32) (a_town_posts_cells : Nat → Int32) (a_town_posts_tolds : Nat → Int32) (a_town_blocks : Nat → Int32) (a_town_kinds : Nat → Int32) (f_reason_number : Int32) (f_reason_detail : Int32) : Option (Int32 × Int32 × Int32) :=
  brn (p1 = (0 : Int32)) (bnd (F_X9_judgeHouse p2 p3 p4 f_town_houses_size a_town_houses_cells a_town_blocks f_reason_number f_reason_detail) (fun o2 => some (o2.1, o2.2.1, o2.2.2))) (brn (p1 = (1 : Int32)) (bnd (F_X9_judgeBlock p2 f_town_houses_size a_town_houses_cells f_reason_number f_reason_detail) (fun o5 => some (o5.1, o5.2.1, o5.2.2))) (brn (p1 = (2 : Int32)) (bnd (F_X9_judgeHall p2 p3 p4 f_town_halls_size a_town_halls_rows a_town_halls_firsts a_town_halls_lasts f_reason_number f_reason_detail) (fun o8 => some (o8.1, o8.2.1, o8.2.2))) (brn (p1 = (3 : Int32)) (bnd (F_X9_judgeRing p2 p3 p4 f_town_houses_size) (fun o11 => some (o11, f_reason_number, f_reason_detail))) (brn (p1 = (4 : Int32)) (bnd (F_X9_judgePost p2 f_town_posts_size a_town_posts_cells a_town_blocks f_reason_number f_reason_detail) (fun o14 => some (o14.1, o14.2.1, o14.2.2))) (brn (p1 = (5 : Int32)) (bnd (F_X9_judgeTell p2 p3 f_town_prankHouse f_town_posts_size a_town_posts_tolds a_town_kinds f_reason_number f_reason_detail) (fun o17 => some (o17.1, o17.2.1, o17.2.2))) (bnd (F_X9_judgeHours p2) (fun o19 => some (o19, f_reason_number, f_reason_detail))))))))
theorem dX11_judgeOrder_0 : decode cX11_judgeOrder 0 = .ok (.iload_n 1, 1) := by decide +kernel
theorem dX11_judgeOrder_1 : decode cX11_judgeOrder 1 = .ok (.tableswitch 123 0 5 #[39, 55, 68, 84, 96, 109], 39) := by decide +kernel
theorem dX11_judgeOrder_40 : decode cX11_judgeOrder 40 = .ok (.aload_n 0, 1) := by decide +kernel
theorem dX11_judgeOrder_41 : decode cX11_judgeOrder 41 = .ok (.getfield 10, 3) := by decide +kernel
theorem dX11_judgeOrder_44 : decode cX11_judgeOrder 44 = .ok (.iload_n 2, 1) := by decide +kernel
theorem dX11_judgeOrder_45 : decode cX11_judgeOrder 45 = .ok (.iload_n 3, 1) := by decide +kernel
theorem dX11_judgeOrder_46 : decode cX11_judgeOrder 46 = .ok (.iload 4, 2) := by decide +kernel
theorem dX11_judgeOrder_48 : decode cX11_judgeOrder 48 = .ok (.aload_n 0, 1) := by decide +kernel
theorem dX11_judgeOrder_49 : decode cX11_judgeOrder 49 = .ok (.getfield 36, 3) := by decide +kernel
theorem dX11_judgeOrder_52 : decode cX11_judgeOrder 52 = .ok (.invokevirtual 61, 3) := by decide +kernel
theorem dX11_judgeOrder_55 : decode cX11_judgeOrder 55 = .ok (.ireturn, 1) := by decide +kernel
theorem dX11_judgeOrder_56 : decode cX11_judgeOrder 56 = .ok (.aload_n 0, 1) := by decide +kernel
theorem dX11_judgeOrder_57 : decode cX11_judgeOrder 57 = .ok (.getfield 10, 3) := by decide +kernel
theorem dX11_judgeOrder_60 : decode cX11_judgeOrder 60 = .ok (.iload_n 2, 1) := by decide +kernel
theorem dX11_judgeOrder_61 : decode cX11_judgeOrder 61 = .ok (.aload_n 0, 1) := by decide +kernel
theorem dX11_judgeOrder_62 : decode cX11_judgeOrder 62 = .ok (.getfield 36, 3) := by decide +kernel
theorem dX11_judgeOrder_65 : decode cX11_judgeOrder 65 = .ok (.invokevirtual 95, 3) := by decide +kernel
theorem dX11_judgeOrder_68 : decode cX11_judgeOrder 68 = .ok (.ireturn, 1) := by decide +kernel
theorem dX11_judgeOrder_69 : decode cX11_judgeOrder 69 = .ok (.aload_n 0, 1) := by decide +kernel
theorem dX11_judgeOrder_70 : decode cX11_judgeOrder 70 = .ok (.getfield 10, 3) := by decide +kernel
theorem dX11_judgeOrder_73 : decode cX11_judgeOrder 73 = .ok (.iload_n 2, 1) := by decide +kernel
theorem dX11_judgeOrder_74 : decode cX11_judgeOrder 74 = .ok (.iload_n 3, 1) := by decide +kernel
theorem dX11_judgeOrder_75 : decode cX11_judgeOrder 75 = .ok (.iload 4, 2) := by decide +kernel
theorem dX11_judgeOrder_77 : decode cX11_judgeOrder 77 = .ok (.aload_n 0, 1) := by decide +kernel
theorem dX11_judgeOrder_78 : decode cX11_judgeOrder 78 = .ok (.getfield 36, 3) := by decide +kernel
theorem dX11_judgeOrder_81 : decode cX11_judgeOrder 81 = .ok (.invokevirtual 102, 3) := by decide +kernel
theorem dX11_judgeOrder_84 : decode cX11_judgeOrder 84 = .ok (.ireturn, 1) := by decide +kernel
theorem dX11_judgeOrder_85 : decode cX11_judgeOrder 85 = .ok (.aload_n 0, 1) := by decide +kernel
theorem dX11_judgeOrder_86 : decode cX11_judgeOrder 86 = .ok (.getfield 10, 3) := by decide +kernel
theorem dX11_judgeOrder_89 : decode cX11_judgeOrder 89 = .ok (.iload_n 2, 1) := by decide +kernel
theorem dX11_judgeOrder_90 : decode cX11_judgeOrder 90 = .ok (.iload_n 3, 1) := by decide +kernel
theorem dX11_judgeOrder_91 : decode cX11_judgeOrder 91 = .ok (.iload 4, 2) := by decide +kernel
theorem dX11_judgeOrder_93 : decode cX11_judgeOrder 93 = .ok (.invokevirtual 172, 3) := by decide +kernel
theorem dX11_judgeOrder_96 : decode cX11_judgeOrder 96 = .ok (.ireturn, 1) := by decide +kernel
theorem dX11_judgeOrder_97 : decode cX11_judgeOrder 97 = .ok (.aload_n 0, 1) := by decide +kernel
theorem dX11_judgeOrder_98 : decode cX11_judgeOrder 98 = .ok (.getfield 10, 3) := by decide +kernel
theorem dX11_judgeOrder_101 : decode cX11_judgeOrder 101 = .ok (.iload_n 2, 1) := by decide +kernel
theorem dX11_judgeOrder_102 : decode cX11_judgeOrder 102 = .ok (.aload_n 0, 1) := by decide +kernel
theorem dX11_judgeOrder_103 : decode cX11_judgeOrder 103 = .ok (.getfield 36, 3) := by decide +kernel
theorem dX11_judgeOrder_106 : decode cX11_judgeOrder 106 = .ok (.invokevirtual 197, 3) := by decide +kernel
theorem dX11_judgeOrder_109 : decode cX11_judgeOrder 109 = .ok (.ireturn, 1) := by decide +kernel
theorem dX11_judgeOrder_110 : decode cX11_judgeOrder 110 = .ok (.aload_n 0, 1) := by decide +kernel
theorem dX11_judgeOrder_111 : decode cX11_judgeOrder 111 = .ok (.getfield 10, 3) := by decide +kernel
theorem dX11_judgeOrder_114 : decode cX11_judgeOrder 114 = .ok (.iload_n 2, 1) := by decide +kernel
theorem dX11_judgeOrder_115 : decode cX11_judgeOrder 115 = .ok (.iload_n 3, 1) := by decide +kernel
theorem dX11_judgeOrder_116 : decode cX11_judgeOrder 116 = .ok (.aload_n 0, 1) := by decide +kernel
theorem dX11_judgeOrder_117 : decode cX11_judgeOrder 117 = .ok (.getfield 36, 3) := by decide +kernel
theorem dX11_judgeOrder_120 : decode cX11_judgeOrder 120 = .ok (.invokevirtual 210, 3) := by decide +kernel
theorem dX11_judgeOrder_123 : decode cX11_judgeOrder 123 = .ok (.ireturn, 1) := by decide +kernel
theorem dX11_judgeOrder_124 : decode cX11_judgeOrder 124 = .ok (.aload_n 0, 1) := by decide +kernel
theorem dX11_judgeOrder_125 : decode cX11_judgeOrder 125 = .ok (.getfield 10, 3) := by decide +kernel
theorem dX11_judgeOrder_128 : decode cX11_judgeOrder 128 = .ok (.iload_n 2, 1) := by decide +kernel
theorem dX11_judgeOrder_129 : decode cX11_judgeOrder 129 = .ok (.invokevirtual 114, 3) := by decide +kernel
theorem dX11_judgeOrder_132 : decode cX11_judgeOrder 132 = .ok (.ireturn, 1) := by decide +kernel
theorem k_X11_judgeOrder : cardV yX11_judgeOrder (Cond.code yX11_judgeOrder cX11_judgeOrder 5 (some .int)) 4 := ⟨⟨qi_X11_judgeOrder, qv_X11_judgeOrder⟩, qc_X11_judgeOrder, qn_X11, by decide +kernel, by decide +kernel, by decide +kernel⟩
set_option maxHeartbeats 4000000 in
set_option maxRecDepth 100000 in
theorem c_X11_judgeOrder (l : Launch) (D : va_G) (g : Nat → ClassId) (q_this q_town q_ahead q_kept q_past q_reason q_orders q_ways q_sheet q_town_houses q_town_halls q_town_posts q_town_blocks q_town_kinds q_town_houses_cells q_town_houses_froms q_town_houses_tos q_town_houses_rings q_town_houses_pranks q_town_halls_rows q_town_halls_firsts q_town_halls_lasts q_town_posts_cells q_town_posts_tolds : Nat) (p1 p2 p3 p4 : Int32) (f_isKept : Int32) (f_town_hour : Int32) (f_town_day : Int32) (f_town_prankHouse : Int32) (f_town_bells : Int32) (f_town_echoes : Int32) (f_town_bellPranks : Int32) (f_town_houses_size : Int32) (a_town_houses_cells : Nat → Int32) (f_town_halls_size : Int32) (a_town_halls_rows : Nat → Int32) (a_town_halls_firsts : Nat → Int32) (a_town_halls_lasts : Nat → Int32) (f_town_posts_size : Int32) (a_town_posts_cells : Nat → Int32) (a_town_posts_tolds : Nat → Int32) (a_town_blocks : Nat → Int32) (a_town_kinds : Nat → Int32) (f_reason_number : Int32) (f_reason_detail : Int32) (o : Int32 × Int32 × Int32) (h : F_X11_judgeOrder p1 p2 p3 p4 f_town_prankHouse f_town_houses_size a_town_houses_cells f_town_halls_size a_town_halls_rows a_town_halls_firsts a_town_halls_lasts f_town_posts_size a_town_posts_cells a_town_posts_tolds a_town_blocks a_town_kinds f_reason_number f_reason_detail = some o) : MW l yX11_judgeOrder (Cond.code yX11_judgeOrder cX11_judgeOrder 5 (some .int)) { frames := 4, cells := 0, slots := 0, locals := 89 } D g [.ref q_this, .int p1, .int p2, .int p3, .int p4] [(q_this, .inr (11, [.ref q_town, .ref q_ahead, .ref q_kept, .int f_isKept, .ref q_past, .ref q_reason, .ref q_orders, .ref q_ways, .ref q_sheet])), (q_town, .inr (9, [.ref q_town_houses, .ref q_town_halls, .ref q_town_posts, .ref q_town_blocks, .ref q_town_kinds, .int f_town_hour, .int f_town_day, .int f_town_prankHouse, .int f_town_bells, .int f_town_echoes, .int f_town_bellPranks])), (q_town_houses, .inr (3, [.int f_town_houses_size, .ref q_town_houses_cells, .ref q_town_houses_froms, .ref q_town_houses_tos, .ref q_town_houses_rings, .ref q_town_houses_pranks])), (q_town_houses_cells, .inl (g 0, 10, .inl a_town_houses_cells)), (q_town_halls, .inr (2, [.int f_town_halls_size, .ref q_town_halls_rows, .ref q_town_halls_firsts, .ref q_town_halls_lasts])), (q_town_halls_rows, .inl (g 0, 4, .inl a_town_halls_rows)), (q_town_halls_firsts, .inl (g 0, 4, .inl a_town_halls_firsts)), (q_town_halls_lasts, .inl (g 0, 4, .inl a_town_halls_lasts)), (q_town_posts, .inr (6, [.int f_town_posts_size, .ref q_town_posts_cells, .ref q_town_posts_tolds])), (q_town_posts_cells, .inl (g 0, 4, .inl a_town_posts_cells)), (q_town_posts_tolds, .inl (g 0, 4, .inl a_town_posts_tolds)), (q_town_blocks, .inl (g 0, 64, .inl a_town_blocks)), (q_town_kinds, .inl (g 0, 4, .inl a_town_kinds)), (q_reason, .inr (7, [.int f_reason_number, .int f_reason_detail]))] (some (.int o.1)) [(q_this, .inr (11, [.ref q_town, .ref q_ahead, .ref q_kept, .int f_isKept, .ref q_past, .ref q_reason, .ref q_orders, .ref q_ways, .ref q_sheet])), (q_town, .inr (9, [.ref q_town_houses, .ref q_town_halls, .ref q_town_posts, .ref q_town_blocks, .ref q_town_kinds, .int f_town_hour, .int f_town_day, .int f_town_prankHouse, .int f_town_bells, .int f_town_echoes, .int f_town_bellPranks])), (q_town_houses, .inr (3, [.int f_town_houses_size, .ref q_town_houses_cells, .ref q_town_houses_froms, .ref q_town_houses_tos, .ref q_town_houses_rings, .ref q_town_houses_pranks])), (q_town_houses_cells, .inl (g 0, 10, .inl a_town_houses_cells)), (q_town_halls, .inr (2, [.int f_town_halls_size, .ref q_town_halls_rows, .ref q_town_halls_firsts, .ref q_town_halls_lasts])), (q_town_halls_rows, .inl (g 0, 4, .inl a_town_halls_rows)), (q_town_halls_firsts, .inl (g 0, 4, .inl a_town_halls_firsts)), (q_town_halls_lasts, .inl (g 0, 4, .inl a_town_halls_lasts)), (q_town_posts, .inr (6, [.int f_town_posts_size, .ref q_town_posts_cells, .ref q_town_posts_tolds])), (q_town_posts_cells, .inl (g 0, 4, .inl a_town_posts_cells)), (q_town_posts_tolds, .inl (g 0, 4, .inl a_town_posts_tolds)), (q_town_blocks, .inl (g 0, 64, .inl a_town_blocks)), (q_town_kinds, .inl (g 0, 4, .inl a_town_kinds)), (q_reason, .inr (7, [.int o.2.1, .int o.2.2]))] := by
  refine z_wr_start (by decide) (Nat.le_of_ble_eq_true rfl) ?_
  intro p e s m args below meth c Q A X hr hQ hA
  refine z_lv (lv' := [(0, .ref q_this), (1, .int p1), (2, .int p2), (3, .int p3), (4, .int p4)]) rfl ?_
  refine z_iload_n X 1 dX11_judgeOrder_0 rfl rfl ?_
  by_cases n1 : p1 = (0 : Int32)
  · have h := brn_t h n1
    refine z_tin (off := 39) 40 X dX11_judgeOrder_1 (sw_eq (k := 0) n1 (by decide)) (by decide) (by decide) (by decide) (by decide) ?_
    refine z_aload_n X 0 dX11_judgeOrder_40 rfl rfl ?_
    refine z_get (q0 := 0) (k := 0) (ci := 11) X IW_P iw_X11 rfl qf_X11_X11_town (by decide) dX11_judgeOrder_41 rfl rfl ?_
    refine z_iload_n X 2 dX11_judgeOrder_44 rfl rfl ?_
    refine z_iload_n X 3 dX11_judgeOrder_45 rfl rfl ?_
    refine z_iload X 4 dX11_judgeOrder_46 rfl ?_
    refine z_aload_n X 0 dX11_judgeOrder_48 rfl rfl ?_
    refine z_get (q0 := 0) (k := 5) (ci := 11) X IW_P iw_X11 rfl qf_X11_X11_reason (by decide) dX11_judgeOrder_49 rfl rfl ?_
    obtain ⟨o2, e3, h⟩ := bnd_p h
    refine z_wrV (rest := []) (q0 := 1) (ci := 9) (ws' := [(q_this, .inr (11, [.ref q_town, .ref q_ahead, .ref q_kept, .int f_isKept, .ref q_past, .ref q_reason, .ref q_orders, .ref q_ways, .ref q_sheet])), (q_town, .inr (9, [.ref q_town_houses, .ref q_town_halls, .ref q_town_posts, .ref q_town_blocks, .ref q_town_kinds, .int f_town_hour, .int f_town_day, .int f_town_prankHouse, .int f_town_bells, .int f_town_echoes, .int f_town_bellPranks])), (q_town_houses, .inr (3, [.int f_town_houses_size, .ref q_town_houses_cells, .ref q_town_houses_froms, .ref q_town_houses_tos, .ref q_town_houses_rings, .ref q_town_houses_pranks])), (q_town_houses_cells, .inl (g 0, 10, .inl a_town_houses_cells)), (q_town_halls, .inr (2, [.int f_town_halls_size, .ref q_town_halls_rows, .ref q_town_halls_firsts, .ref q_town_halls_lasts])), (q_town_halls_rows, .inl (g 0, 4, .inl a_town_halls_rows)), (q_town_halls_firsts, .inl (g 0, 4, .inl a_town_halls_firsts)), (q_town_halls_lasts, .inl (g 0, 4, .inl a_town_halls_lasts)), (q_town_posts, .inr (6, [.int f_town_posts_size, .ref q_town_posts_cells, .ref q_town_posts_tolds])), (q_town_posts_cells, .inl (g 0, 4, .inl a_town_posts_cells)), (q_town_posts_tolds, .inl (g 0, 4, .inl a_town_posts_tolds)), (q_town_blocks, .inl (g 0, 64, .inl a_town_blocks)), (q_town_kinds, .inl (g 0, 4, .inl a_town_kinds)), (q_reason, .inr (7, [.int o2.2.1, .int o2.2.2]))]) (wr := [(q_this, .inr (11, [.ref q_town, .ref q_ahead, .ref q_kept, .int f_isKept, .ref q_past, .ref q_reason, .ref q_orders, .ref q_ways, .ref q_sheet])), (q_town_halls, .inr (2, [.int f_town_halls_size, .ref q_town_halls_rows, .ref q_town_halls_firsts, .ref q_town_halls_lasts])), (q_town_halls_rows, .inl (g 0, 4, .inl a_town_halls_rows)), (q_town_halls_firsts, .inl (g 0, 4, .inl a_town_halls_firsts)), (q_town_halls_lasts, .inl (g 0, 4, .inl a_town_halls_lasts)), (q_town_posts, .inr (6, [.int f_town_posts_size, .ref q_town_posts_cells, .ref q_town_posts_tolds])), (q_town_posts_cells, .inl (g 0, 4, .inl a_town_posts_cells)), (q_town_posts_tolds, .inl (g 0, 4, .inl a_town_posts_tolds)), (q_town_kinds, .inl (g 0, 4, .inl a_town_kinds))]) (as := [q_this, q_town, q_town_houses, q_town_houses_cells, q_town_halls, q_town_halls_rows, q_town_halls_firsts, q_town_halls_lasts, q_town_posts, q_town_posts_cells, q_town_posts_tolds, q_town_blocks, q_town_kinds, q_reason]) X k_X9_judgeHouse (c_X9_judgeHouse l D g q_town q_town_houses q_town_halls q_town_posts q_town_blocks q_town_kinds q_town_houses_cells q_town_houses_froms q_town_houses_tos q_town_houses_rings q_town_houses_pranks q_reason p2 p3 p4 f_town_hour f_town_day f_town_prankHouse f_town_bells f_town_echoes f_town_bellPranks f_town_houses_size a_town_houses_cells a_town_blocks f_reason_number f_reason_detail o2 e3) ql_X11_X9_judgeHouse dX11_judgeOrder_52 [1, 2, 3, 11, 13] [0, 4, 5, 6, 7, 8, 9, 10, 12] ⟨rfl, rfl, rfl, rfl, rfl, rfl, rfl, rfl⟩ rfl rfl rfl rfl rfl ⟨Nat.le_of_ble_eq_true rfl, Nat.le_of_ble_eq_true rfl, rfl, rfl, Nat.le_of_ble_eq_true rfl, Nat.le_of_ble_eq_true rfl⟩ (Nat.le_of_ble_eq_true rfl) ?_
    cases h
    exact z_iretW X hQ hA hr dX11_judgeOrder_55
  have h := brn_f h n1
  by_cases n4 : p1 = (1 : Int32)
  · have h := brn_t h n4
    refine z_tin (off := 55) 56 X dX11_judgeOrder_1 (sw_eq (k := 1) n4 (by decide)) (by decide) (by decide) (by decide) (by decide) ?_
    refine z_aload_n X 0 dX11_judgeOrder_56 rfl rfl ?_
    refine z_get (q0 := 0) (k := 0) (ci := 11) X IW_P iw_X11 rfl qf_X11_X11_town (by decide) dX11_judgeOrder_57 rfl rfl ?_
    refine z_iload_n X 2 dX11_judgeOrder_60 rfl rfl ?_
    refine z_aload_n X 0 dX11_judgeOrder_61 rfl rfl ?_
    refine z_get (q0 := 0) (k := 5) (ci := 11) X IW_P iw_X11 rfl qf_X11_X11_reason (by decide) dX11_judgeOrder_62 rfl rfl ?_
    obtain ⟨o5, e6, h⟩ := bnd_p h
    refine z_wrV (rest := []) (q0 := 1) (ci := 9) (ws' := [(q_this, .inr (11, [.ref q_town, .ref q_ahead, .ref q_kept, .int f_isKept, .ref q_past, .ref q_reason, .ref q_orders, .ref q_ways, .ref q_sheet])), (q_town, .inr (9, [.ref q_town_houses, .ref q_town_halls, .ref q_town_posts, .ref q_town_blocks, .ref q_town_kinds, .int f_town_hour, .int f_town_day, .int f_town_prankHouse, .int f_town_bells, .int f_town_echoes, .int f_town_bellPranks])), (q_town_houses, .inr (3, [.int f_town_houses_size, .ref q_town_houses_cells, .ref q_town_houses_froms, .ref q_town_houses_tos, .ref q_town_houses_rings, .ref q_town_houses_pranks])), (q_town_houses_cells, .inl (g 0, 10, .inl a_town_houses_cells)), (q_town_halls, .inr (2, [.int f_town_halls_size, .ref q_town_halls_rows, .ref q_town_halls_firsts, .ref q_town_halls_lasts])), (q_town_halls_rows, .inl (g 0, 4, .inl a_town_halls_rows)), (q_town_halls_firsts, .inl (g 0, 4, .inl a_town_halls_firsts)), (q_town_halls_lasts, .inl (g 0, 4, .inl a_town_halls_lasts)), (q_town_posts, .inr (6, [.int f_town_posts_size, .ref q_town_posts_cells, .ref q_town_posts_tolds])), (q_town_posts_cells, .inl (g 0, 4, .inl a_town_posts_cells)), (q_town_posts_tolds, .inl (g 0, 4, .inl a_town_posts_tolds)), (q_town_blocks, .inl (g 0, 64, .inl a_town_blocks)), (q_town_kinds, .inl (g 0, 4, .inl a_town_kinds)), (q_reason, .inr (7, [.int o5.2.1, .int o5.2.2]))]) (wr := [(q_this, .inr (11, [.ref q_town, .ref q_ahead, .ref q_kept, .int f_isKept, .ref q_past, .ref q_reason, .ref q_orders, .ref q_ways, .ref q_sheet])), (q_town_halls, .inr (2, [.int f_town_halls_size, .ref q_town_halls_rows, .ref q_town_halls_firsts, .ref q_town_halls_lasts])), (q_town_halls_rows, .inl (g 0, 4, .inl a_town_halls_rows)), (q_town_halls_firsts, .inl (g 0, 4, .inl a_town_halls_firsts)), (q_town_halls_lasts, .inl (g 0, 4, .inl a_town_halls_lasts)), (q_town_posts, .inr (6, [.int f_town_posts_size, .ref q_town_posts_cells, .ref q_town_posts_tolds])), (q_town_posts_cells, .inl (g 0, 4, .inl a_town_posts_cells)), (q_town_posts_tolds, .inl (g 0, 4, .inl a_town_posts_tolds)), (q_town_blocks, .inl (g 0, 64, .inl a_town_blocks)), (q_town_kinds, .inl (g 0, 4, .inl a_town_kinds))]) (as := [q_this, q_town, q_town_houses, q_town_houses_cells, q_town_halls, q_town_halls_rows, q_town_halls_firsts, q_town_halls_lasts, q_town_posts, q_town_posts_cells, q_town_posts_tolds, q_town_blocks, q_town_kinds, q_reason]) X k_X9_judgeBlock (c_X9_judgeBlock l D g q_town q_town_houses q_town_halls q_town_posts q_town_blocks q_town_kinds q_town_houses_cells q_town_houses_froms q_town_houses_tos q_town_houses_rings q_town_houses_pranks q_reason p2 f_town_hour f_town_day f_town_prankHouse f_town_bells f_town_echoes f_town_bellPranks f_town_houses_size a_town_houses_cells f_reason_number f_reason_detail o5 e6) ql_X11_X9_judgeBlock dX11_judgeOrder_65 [1, 2, 3, 13] [0, 4, 5, 6, 7, 8, 9, 10, 11, 12] ⟨rfl, rfl, rfl, rfl, rfl, rfl, rfl, rfl⟩ rfl rfl rfl rfl rfl ⟨Nat.le_of_ble_eq_true rfl, Nat.le_of_ble_eq_true rfl, rfl, rfl, Nat.le_of_ble_eq_true rfl, Nat.le_of_ble_eq_true rfl⟩ (Nat.le_of_ble_eq_true rfl) ?_
    cases h
    exact z_iretW X hQ hA hr dX11_judgeOrder_68
  have h := brn_f h n4
  by_cases n7 : p1 = (2 : Int32)
  · have h := brn_t h n7
    refine z_tin (off := 68) 69 X dX11_judgeOrder_1 (sw_eq (k := 2) n7 (by decide)) (by decide) (by decide) (by decide) (by decide) ?_
    refine z_aload_n X 0 dX11_judgeOrder_69 rfl rfl ?_
    refine z_get (q0 := 0) (k := 0) (ci := 11) X IW_P iw_X11 rfl qf_X11_X11_town (by decide) dX11_judgeOrder_70 rfl rfl ?_
    refine z_iload_n X 2 dX11_judgeOrder_73 rfl rfl ?_
    refine z_iload_n X 3 dX11_judgeOrder_74 rfl rfl ?_
    refine z_iload X 4 dX11_judgeOrder_75 rfl ?_
    refine z_aload_n X 0 dX11_judgeOrder_77 rfl rfl ?_
    refine z_get (q0 := 0) (k := 5) (ci := 11) X IW_P iw_X11 rfl qf_X11_X11_reason (by decide) dX11_judgeOrder_78 rfl rfl ?_
    obtain ⟨o8, e9, h⟩ := bnd_p h
    refine z_wrV (rest := []) (q0 := 1) (ci := 9) (ws' := [(q_this, .inr (11, [.ref q_town, .ref q_ahead, .ref q_kept, .int f_isKept, .ref q_past, .ref q_reason, .ref q_orders, .ref q_ways, .ref q_sheet])), (q_town, .inr (9, [.ref q_town_houses, .ref q_town_halls, .ref q_town_posts, .ref q_town_blocks, .ref q_town_kinds, .int f_town_hour, .int f_town_day, .int f_town_prankHouse, .int f_town_bells, .int f_town_echoes, .int f_town_bellPranks])), (q_town_houses, .inr (3, [.int f_town_houses_size, .ref q_town_houses_cells, .ref q_town_houses_froms, .ref q_town_houses_tos, .ref q_town_houses_rings, .ref q_town_houses_pranks])), (q_town_houses_cells, .inl (g 0, 10, .inl a_town_houses_cells)), (q_town_halls, .inr (2, [.int f_town_halls_size, .ref q_town_halls_rows, .ref q_town_halls_firsts, .ref q_town_halls_lasts])), (q_town_halls_rows, .inl (g 0, 4, .inl a_town_halls_rows)), (q_town_halls_firsts, .inl (g 0, 4, .inl a_town_halls_firsts)), (q_town_halls_lasts, .inl (g 0, 4, .inl a_town_halls_lasts)), (q_town_posts, .inr (6, [.int f_town_posts_size, .ref q_town_posts_cells, .ref q_town_posts_tolds])), (q_town_posts_cells, .inl (g 0, 4, .inl a_town_posts_cells)), (q_town_posts_tolds, .inl (g 0, 4, .inl a_town_posts_tolds)), (q_town_blocks, .inl (g 0, 64, .inl a_town_blocks)), (q_town_kinds, .inl (g 0, 4, .inl a_town_kinds)), (q_reason, .inr (7, [.int o8.2.1, .int o8.2.2]))]) (wr := [(q_this, .inr (11, [.ref q_town, .ref q_ahead, .ref q_kept, .int f_isKept, .ref q_past, .ref q_reason, .ref q_orders, .ref q_ways, .ref q_sheet])), (q_town_houses, .inr (3, [.int f_town_houses_size, .ref q_town_houses_cells, .ref q_town_houses_froms, .ref q_town_houses_tos, .ref q_town_houses_rings, .ref q_town_houses_pranks])), (q_town_houses_cells, .inl (g 0, 10, .inl a_town_houses_cells)), (q_town_posts, .inr (6, [.int f_town_posts_size, .ref q_town_posts_cells, .ref q_town_posts_tolds])), (q_town_posts_cells, .inl (g 0, 4, .inl a_town_posts_cells)), (q_town_posts_tolds, .inl (g 0, 4, .inl a_town_posts_tolds)), (q_town_blocks, .inl (g 0, 64, .inl a_town_blocks)), (q_town_kinds, .inl (g 0, 4, .inl a_town_kinds))]) (as := [q_this, q_town, q_town_houses, q_town_houses_cells, q_town_halls, q_town_halls_rows, q_town_halls_firsts, q_town_halls_lasts, q_town_posts, q_town_posts_cells, q_town_posts_tolds, q_town_blocks, q_town_kinds, q_reason]) X k_X9_judgeHall (c_X9_judgeHall l D g q_town q_town_houses q_town_halls q_town_posts q_town_blocks q_town_kinds q_town_halls_rows q_town_halls_firsts q_town_halls_lasts q_reason p2 p3 p4 f_town_hour f_town_day f_town_prankHouse f_town_bells f_town_echoes f_town_bellPranks f_town_halls_size a_town_halls_rows a_town_halls_firsts a_town_halls_lasts f_reason_number f_reason_detail o8 e9) ql_X11_X9_judgeHall dX11_judgeOrder_81 [1, 4, 5, 6, 7, 13] [0, 2, 3, 8, 9, 10, 11, 12] ⟨rfl, rfl, rfl, rfl, rfl, rfl, rfl, rfl⟩ rfl rfl rfl rfl rfl ⟨Nat.le_of_ble_eq_true rfl, Nat.le_of_ble_eq_true rfl, rfl, rfl, Nat.le_of_ble_eq_true rfl, Nat.le_of_ble_eq_true rfl⟩ (Nat.le_of_ble_eq_true rfl) ?_
    cases h
    exact z_iretW X hQ hA hr dX11_judgeOrder_84
  have h := brn_f h n7
  by_cases n10 : p1 = (3 : Int32)
  · have h := brn_t h n10
    refine z_tin (off := 84) 85 X dX11_judgeOrder_1 (sw_eq (k := 3) n10 (by decide)) (by decide) (by decide) (by decide) (by decide) ?_
    refine z_aload_n X 0 dX11_judgeOrder_85 rfl rfl ?_
    refine z_get (q0 := 0) (k := 0) (ci := 11) X IW_P iw_X11 rfl qf_X11_X11_town (by decide) dX11_judgeOrder_86 rfl rfl ?_
    refine z_iload_n X 2 dX11_judgeOrder_89 rfl rfl ?_
    refine z_iload_n X 3 dX11_judgeOrder_90 rfl rfl ?_
    refine z_iload X 4 dX11_judgeOrder_91 rfl ?_
    obtain ⟨o11, e12, h⟩ := bnd_p h
    refine z_rdV (rest := []) (q0 := 1) (ci := 9) X IW_P k_X9_judgeRing (c_X9_judgeRing l D g q_town q_town_houses q_town_halls q_town_posts q_town_blocks q_town_kinds q_town_houses_cells q_town_houses_froms q_town_houses_tos q_town_houses_rings q_town_houses_pranks p2 p3 p4 f_town_hour f_town_day f_town_prankHouse f_town_bells f_town_echoes f_town_bellPranks f_town_houses_size o11 e12) ql_X11_X9_judgeRing dX11_judgeOrder_93 [1, 2] rfl rfl rfl rfl rfl rfl ⟨Nat.le_of_ble_eq_true rfl, Nat.le_of_ble_eq_true rfl, rfl, rfl, Nat.le_of_ble_eq_true rfl, Nat.le_of_ble_eq_true rfl⟩ (Nat.le_of_ble_eq_true rfl) ?_
    cases h
    exact z_iretW X hQ hA hr dX11_judgeOrder_96
  have h := brn_f h n10
  by_cases n13 : p1 = (4 : Int32)
  · have h := brn_t h n13
    refine z_tin (off := 96) 97 X dX11_judgeOrder_1 (sw_eq (k := 4) n13 (by decide)) (by decide) (by decide) (by decide) (by decide) ?_
    refine z_aload_n X 0 dX11_judgeOrder_97 rfl rfl ?_
    refine z_get (q0 := 0) (k := 0) (ci := 11) X IW_P iw_X11 rfl qf_X11_X11_town (by decide) dX11_judgeOrder_98 rfl rfl ?_
    refine z_iload_n X 2 dX11_judgeOrder_101 rfl rfl ?_
    refine z_aload_n X 0 dX11_judgeOrder_102 rfl rfl ?_
    refine z_get (q0 := 0) (k := 5) (ci := 11) X IW_P iw_X11 rfl qf_X11_X11_reason (by decide) dX11_judgeOrder_103 rfl rfl ?_
    obtain ⟨o14, e15, h⟩ := bnd_p h
    refine z_wrV (rest := []) (q0 := 1) (ci := 9) (ws' := [(q_this, .inr (11, [.ref q_town, .ref q_ahead, .ref q_kept, .int f_isKept, .ref q_past, .ref q_reason, .ref q_orders, .ref q_ways, .ref q_sheet])), (q_town, .inr (9, [.ref q_town_houses, .ref q_town_halls, .ref q_town_posts, .ref q_town_blocks, .ref q_town_kinds, .int f_town_hour, .int f_town_day, .int f_town_prankHouse, .int f_town_bells, .int f_town_echoes, .int f_town_bellPranks])), (q_town_houses, .inr (3, [.int f_town_houses_size, .ref q_town_houses_cells, .ref q_town_houses_froms, .ref q_town_houses_tos, .ref q_town_houses_rings, .ref q_town_houses_pranks])), (q_town_houses_cells, .inl (g 0, 10, .inl a_town_houses_cells)), (q_town_halls, .inr (2, [.int f_town_halls_size, .ref q_town_halls_rows, .ref q_town_halls_firsts, .ref q_town_halls_lasts])), (q_town_halls_rows, .inl (g 0, 4, .inl a_town_halls_rows)), (q_town_halls_firsts, .inl (g 0, 4, .inl a_town_halls_firsts)), (q_town_halls_lasts, .inl (g 0, 4, .inl a_town_halls_lasts)), (q_town_posts, .inr (6, [.int f_town_posts_size, .ref q_town_posts_cells, .ref q_town_posts_tolds])), (q_town_posts_cells, .inl (g 0, 4, .inl a_town_posts_cells)), (q_town_posts_tolds, .inl (g 0, 4, .inl a_town_posts_tolds)), (q_town_blocks, .inl (g 0, 64, .inl a_town_blocks)), (q_town_kinds, .inl (g 0, 4, .inl a_town_kinds)), (q_reason, .inr (7, [.int o14.2.1, .int o14.2.2]))]) (wr := [(q_this, .inr (11, [.ref q_town, .ref q_ahead, .ref q_kept, .int f_isKept, .ref q_past, .ref q_reason, .ref q_orders, .ref q_ways, .ref q_sheet])), (q_town_houses, .inr (3, [.int f_town_houses_size, .ref q_town_houses_cells, .ref q_town_houses_froms, .ref q_town_houses_tos, .ref q_town_houses_rings, .ref q_town_houses_pranks])), (q_town_houses_cells, .inl (g 0, 10, .inl a_town_houses_cells)), (q_town_halls, .inr (2, [.int f_town_halls_size, .ref q_town_halls_rows, .ref q_town_halls_firsts, .ref q_town_halls_lasts])), (q_town_halls_rows, .inl (g 0, 4, .inl a_town_halls_rows)), (q_town_halls_firsts, .inl (g 0, 4, .inl a_town_halls_firsts)), (q_town_halls_lasts, .inl (g 0, 4, .inl a_town_halls_lasts)), (q_town_posts_tolds, .inl (g 0, 4, .inl a_town_posts_tolds)), (q_town_kinds, .inl (g 0, 4, .inl a_town_kinds))]) (as := [q_this, q_town, q_town_houses, q_town_houses_cells, q_town_halls, q_town_halls_rows, q_town_halls_firsts, q_town_halls_lasts, q_town_posts, q_town_posts_cells, q_town_posts_tolds, q_town_blocks, q_town_kinds, q_reason]) X k_X9_judgePost (c_X9_judgePost l D g q_town q_town_houses q_town_halls q_town_posts q_town_blocks q_town_kinds q_town_posts_cells q_town_posts_tolds q_reason p2 f_town_hour f_town_day f_town_prankHouse f_town_bells f_town_echoes f_town_bellPranks f_town_posts_size a_town_posts_cells a_town_blocks f_reason_number f_reason_detail o14 e15) ql_X11_X9_judgePost dX11_judgeOrder_106 [1, 8, 9, 11, 13] [0, 2, 3, 4, 5, 6, 7, 10, 12] ⟨rfl, rfl, rfl, rfl, rfl, rfl, rfl, rfl⟩ rfl rfl rfl rfl rfl ⟨Nat.le_of_ble_eq_true rfl, Nat.le_of_ble_eq_true rfl, rfl, rfl, Nat.le_of_ble_eq_true rfl, Nat.le_of_ble_eq_true rfl⟩ (Nat.le_of_ble_eq_true rfl) ?_
    cases h
    exact z_iretW X hQ hA hr dX11_judgeOrder_109
  have h := brn_f h n13
  by_cases n16 : p1 = (5 : Int32)
  · have h := brn_t h n16
    refine z_tin (off := 109) 110 X dX11_judgeOrder_1 (sw_eq (k := 5) n16 (by decide)) (by decide) (by decide) (by decide) (by decide) ?_
    refine z_aload_n X 0 dX11_judgeOrder_110 rfl rfl ?_
    refine z_get (q0 := 0) (k := 0) (ci := 11) X IW_P iw_X11 rfl qf_X11_X11_town (by decide) dX11_judgeOrder_111 rfl rfl ?_
    refine z_iload_n X 2 dX11_judgeOrder_114 rfl rfl ?_
    refine z_iload_n X 3 dX11_judgeOrder_115 rfl rfl ?_
    refine z_aload_n X 0 dX11_judgeOrder_116 rfl rfl ?_
    refine z_get (q0 := 0) (k := 5) (ci := 11) X IW_P iw_X11 rfl qf_X11_X11_reason (by decide) dX11_judgeOrder_117 rfl rfl ?_
    obtain ⟨o17, e18, h⟩ := bnd_p h
    refine z_wrV (rest := []) (q0 := 1) (ci := 9) (ws' := [(q_this, .inr (11, [.ref q_town, .ref q_ahead, .ref q_kept, .int f_isKept, .ref q_past, .ref q_reason, .ref q_orders, .ref q_ways, .ref q_sheet])), (q_town, .inr (9, [.ref q_town_houses, .ref q_town_halls, .ref q_town_posts, .ref q_town_blocks, .ref q_town_kinds, .int f_town_hour, .int f_town_day, .int f_town_prankHouse, .int f_town_bells, .int f_town_echoes, .int f_town_bellPranks])), (q_town_houses, .inr (3, [.int f_town_houses_size, .ref q_town_houses_cells, .ref q_town_houses_froms, .ref q_town_houses_tos, .ref q_town_houses_rings, .ref q_town_houses_pranks])), (q_town_houses_cells, .inl (g 0, 10, .inl a_town_houses_cells)), (q_town_halls, .inr (2, [.int f_town_halls_size, .ref q_town_halls_rows, .ref q_town_halls_firsts, .ref q_town_halls_lasts])), (q_town_halls_rows, .inl (g 0, 4, .inl a_town_halls_rows)), (q_town_halls_firsts, .inl (g 0, 4, .inl a_town_halls_firsts)), (q_town_halls_lasts, .inl (g 0, 4, .inl a_town_halls_lasts)), (q_town_posts, .inr (6, [.int f_town_posts_size, .ref q_town_posts_cells, .ref q_town_posts_tolds])), (q_town_posts_cells, .inl (g 0, 4, .inl a_town_posts_cells)), (q_town_posts_tolds, .inl (g 0, 4, .inl a_town_posts_tolds)), (q_town_blocks, .inl (g 0, 64, .inl a_town_blocks)), (q_town_kinds, .inl (g 0, 4, .inl a_town_kinds)), (q_reason, .inr (7, [.int o17.2.1, .int o17.2.2]))]) (wr := [(q_this, .inr (11, [.ref q_town, .ref q_ahead, .ref q_kept, .int f_isKept, .ref q_past, .ref q_reason, .ref q_orders, .ref q_ways, .ref q_sheet])), (q_town_houses, .inr (3, [.int f_town_houses_size, .ref q_town_houses_cells, .ref q_town_houses_froms, .ref q_town_houses_tos, .ref q_town_houses_rings, .ref q_town_houses_pranks])), (q_town_houses_cells, .inl (g 0, 10, .inl a_town_houses_cells)), (q_town_halls, .inr (2, [.int f_town_halls_size, .ref q_town_halls_rows, .ref q_town_halls_firsts, .ref q_town_halls_lasts])), (q_town_halls_rows, .inl (g 0, 4, .inl a_town_halls_rows)), (q_town_halls_firsts, .inl (g 0, 4, .inl a_town_halls_firsts)), (q_town_halls_lasts, .inl (g 0, 4, .inl a_town_halls_lasts)), (q_town_posts_cells, .inl (g 0, 4, .inl a_town_posts_cells)), (q_town_blocks, .inl (g 0, 64, .inl a_town_blocks))]) (as := [q_this, q_town, q_town_houses, q_town_houses_cells, q_town_halls, q_town_halls_rows, q_town_halls_firsts, q_town_halls_lasts, q_town_posts, q_town_posts_cells, q_town_posts_tolds, q_town_blocks, q_town_kinds, q_reason]) X k_X9_judgeTell (c_X9_judgeTell l D g q_town q_town_houses q_town_halls q_town_posts q_town_blocks q_town_kinds q_town_posts_cells q_town_posts_tolds q_reason p2 p3 f_town_hour f_town_day f_town_prankHouse f_town_bells f_town_echoes f_town_bellPranks f_town_posts_size a_town_posts_tolds a_town_kinds f_reason_number f_reason_detail o17 e18) ql_X11_X9_judgeTell dX11_judgeOrder_120 [1, 8, 10, 12, 13] [0, 2, 3, 4, 5, 6, 7, 9, 11] ⟨rfl, rfl, rfl, rfl, rfl, rfl, rfl, rfl⟩ rfl rfl rfl rfl rfl ⟨Nat.le_of_ble_eq_true rfl, Nat.le_of_ble_eq_true rfl, rfl, rfl, Nat.le_of_ble_eq_true rfl, Nat.le_of_ble_eq_true rfl⟩ (Nat.le_of_ble_eq_true rfl) ?_
    cases h
    exact z_iretW X hQ hA hr dX11_judgeOrder_123
  have h := brn_f h n16
  refine z_tdef 124 [0, 1, 2, 3, 4, 5] X dX11_judgeOrder_1 (by decide) (by decide) (List.forall_mem_cons.mpr ⟨sw_ne n1 (by decide), List.forall_mem_cons.mpr ⟨sw_ne n4 (by decide), List.forall_mem_cons.mpr ⟨sw_ne n7 (by decide), List.forall_mem_cons.mpr ⟨sw_ne n10 (by decide), List.forall_mem_cons.mpr ⟨sw_ne n13 (by decide), List.forall_mem_cons.mpr ⟨sw_ne n16 (by decide), fun _ hk => absurd hk List.not_mem_nil⟩⟩⟩⟩⟩⟩) (by decide) ?_
  refine z_aload_n X 0 dX11_judgeOrder_124 rfl rfl ?_
  refine z_get (q0 := 0) (k := 0) (ci := 11) X IW_P iw_X11 rfl qf_X11_X11_town (by decide) dX11_judgeOrder_125 rfl rfl ?_
  refine z_iload_n X 2 dX11_judgeOrder_128 rfl rfl ?_
  obtain ⟨o19, e20, h⟩ := bnd_p h
  refine z_rdV (rest := []) (q0 := 1) (ci := 9) X IW_P k_X9_judgeHours (c_X9_judgeHours l D g q_town p2 o19 e20) ql_X11_X9_judgeHours dX11_judgeOrder_129 [] rfl rfl rfl rfl rfl rfl ⟨Nat.le_of_ble_eq_true rfl, Nat.le_of_ble_eq_true rfl, rfl, rfl, Nat.le_of_ble_eq_true rfl, Nat.le_of_ble_eq_true rfl⟩ (Nat.le_of_ble_eq_true rfl) ?_
  cases h
  exact z_iretW X hQ hA hr dX11_judgeOrder_132

def F_X11_doOrder (p1 : Int32) (p2 : Int32) (p3 : Int32) (p4 : Int32) (f_town_hour : Int32) (f_town_day : Int32) (f_town_prankHouse : Int32) (f_town_bells : Int32) (f_town_echoes : Int32) (f_town_bellPranks : Int32) (f_town_houses_size : Int32) (a_town_houses_cells : Nat → Int32) (a_town_houses_froms : Nat → Int32) (a_town_houses_tos : Nat → Int32) (a_town_houses_rings : Nat → Int32) (a_town_houses_pranks : Nat → Int32) (f_town_halls_size : Int32) (a_town_halls_rows : Nat → Int32) (a_town_halls_firsts : Nat → Int32) (a_town_halls_lasts : Nat → Int32) (f_town_posts_size : Int32) (a_town_posts_cells : Nat → Int32) (a_town_posts_tolds : Nat → Int32) (a_town_blocks : Nat → Int32) (a_town_kinds : Nat → Int32) : Option (Int32 × Int32 × Int32 × Int32 × Int32 × Int32 × Int32 × (Nat → Int32) × (Nat → Int32) × (Nat → Int32) × (Nat → Int32) × (Nat → Int32) × Int32 × (Nat → Int32) × (Nat → Int32) × (Nat → Int32) × Int32 × (Nat → Int32) × (Nat → Int32) × (Nat → Int32) × (Nat → Int32)) :=
  brn (p1 = (0 : Int32)) (bnd (F_X2_add p2 p3 p4 f_town_houses_size a_town_houses_cells a_town_houses_froms a_town_houses_tos a_town_houses_rings a_town_houses_pranks) (fun o2 => some (f_town_hour, f_town_day, f_town_prankHouse, f_town_bells, f_town_echoes, f_town_bellPranks, o2.2.1, o2.2.2.1, o2.2.2.2.1, o2.2.2.2.2.1, o2.2.2.2.2.2.1, o2.2.2.2.2.2.2, f_town_halls_size, a_town_halls_rows, a_town_halls_firsts, a_town_halls_lasts, f_town_posts_size, a_town_posts_cells, a_town_posts_tolds, a_town_blocks, a_town_kinds))) (brn (p1 = (1 : Int32)) (bnd (F_X9_turnBlock p2 a_town_blocks) (fun o5 => some (f_town_hour, f_town_day, f_town_prankHouse, f_town_bells, f_town_echoes, f_town_bellPranks, f_town_houses_size, a_town_houses_cells, a_town_houses_froms, a_town_houses_tos, a_town_houses_rings, a_town_houses_pranks, f_town_halls_size, a_town_halls_rows, a_town_halls_firsts, a_town_halls_lasts, f_town_posts_size, a_town_posts_cells, a_town_posts_tolds, o5.2, a_town_kinds))) (brn (p1 = (2 : Int32)) (bnd (F_X1_add p2 p3 p4 f_town_halls_size a_town_halls_rows a_town_halls_firsts a_town_halls_lasts) (fun o8 => some (f_town_hour, f_town_day, f_town_prankHouse, f_town_bells, f_town_echoes, f_town_bellPranks, f_town_houses_size, a_town_houses_cells, a_town_houses_froms, a_town_houses_tos, a_town_houses_rings, a_town_houses_pranks, o8.2.1, o8.2.2.1, o8.2.2.2.1, o8.2.2.2.2, f_town_posts_size, a_town_posts_cells, a_town_posts_tolds, a_town_blocks, a_town_kinds))) (brn (p1 = (3 : Int32)) (bnd (F_X9_ringAt p2 p3 p4 f_town_hour f_town_houses_size a_town_houses_cells a_town_houses_froms a_town_houses_tos f_town_halls_size a_town_halls_rows a_town_halls_firsts a_town_halls_lasts f_town_posts_size f_town_prankHouse f_town_bells f_town_echoes f_town_bellPranks a_town_houses_rings a_town_houses_pranks a_town_posts_tolds a_town_kinds) (fun o11 => some (f_town_hour, f_town_day, o11.2.1, o11.2.2.1, o11.2.2.2.1, o11.2.2.2.2.1, f_town_houses_size, a_town_houses_cells, a_town_houses_froms, a_town_houses_tos, o11.2.2.2.2.2.1, o11.2.2.2.2.2.2.1, f_town_halls_size, a_town_halls_rows, a_town_halls_firsts, a_town_halls_lasts, f_town_posts_size, a_town_posts_cells, o11.2.2.2.2.2.2.2.1, a_town_blocks, o11.2.2.2.2.2.2.2.2))) (brn (p1 = (4 : Int32)) (bnd (F_X5_add p2 f_town_posts_size a_town_posts_cells a_town_posts_tolds) (fun o14 => some (f_town_hour, f_town_day, f_town_prankHouse, f_town_bells, f_town_echoes, f_town_bellPranks, f_town_houses_size, a_town_houses_cells, a_town_houses_froms, a_town_houses_tos, a_town_houses_rings, a_town_houses_pranks, f_town_halls_size, a_town_halls_rows, a_town_halls_firsts, a_town_halls_lasts, o14.2.1, o14.2.2.1, o14.2.2.2, a_town_blocks, a_town_kinds))) (brn (p1 = (5 : Int32)) (bnd (F_X5_setTold p2 p3 a_town_posts_tolds) (fun o17 => some (f_town_hour, f_town_day, f_town_prankHouse, f_town_bells, f_town_echoes, f_town_bellPranks, f_town_houses_size, a_town_houses_cells, a_town_houses_froms, a_town_houses_tos, a_town_houses_rings, a_town_houses_pranks, f_town_halls_size, a_town_halls_rows, a_town_halls_firsts, a_town_halls_lasts, f_town_posts_size, a_town_posts_cells, o17, a_town_blocks, a_town_kinds))) (bnd (F_X9_letPass p2 f_town_hour f_town_day) (fun o19 => some (o19.2.1, o19.2.2, f_town_prankHouse, f_town_bells, f_town_echoes, f_town_bellPranks, f_town_houses_size, a_town_houses_cells, a_town_houses_froms, a_town_houses_tos, a_town_houses_rings, a_town_houses_pranks, f_town_halls_size, a_town_halls_rows, a_town_halls_firsts, a_town_halls_lasts, f_town_posts_size, a_town_posts_cells, a_town_posts_tolds, a_town_blocks, a_town_kinds))))))))
theorem dX11_doOrder_0 : decode cX11_doOrder 0 = .ok (.iload_n 1, 1) := by decide +kernel
theorem dX11_doOrder_1 : decode cX11_doOrder 1 = .ok (.tableswitch 132 0 5 #[39, 57, 69, 87, 102, 117], 39) := by decide +kernel
theorem dX11_doOrder_40 : decode cX11_doOrder 40 = .ok (.aload_n 0, 1) := by decide +kernel
theorem dX11_doOrder_41 : decode cX11_doOrder 41 = .ok (.getfield 10, 3) := by decide +kernel
theorem dX11_doOrder_44 : decode cX11_doOrder 44 = .ok (.getfield 73, 3) := by decide +kernel
theorem dX11_doOrder_47 : decode cX11_doOrder 47 = .ok (.iload_n 2, 1) := by decide +kernel
theorem dX11_doOrder_48 : decode cX11_doOrder 48 = .ok (.iload_n 3, 1) := by decide +kernel
theorem dX11_doOrder_49 : decode cX11_doOrder 49 = .ok (.iload 4, 2) := by decide +kernel
theorem dX11_doOrder_51 : decode cX11_doOrder 51 = .ok (.invokevirtual 77, 3) := by decide +kernel
theorem dX11_doOrder_54 : decode cX11_doOrder 54 = .ok (.pop, 1) := by decide +kernel
theorem dX11_doOrder_55 : decode cX11_doOrder 55 = .ok (.goto 87, 3) := by decide +kernel
theorem dX11_doOrder_58 : decode cX11_doOrder 58 = .ok (.aload_n 0, 1) := by decide +kernel
theorem dX11_doOrder_59 : decode cX11_doOrder 59 = .ok (.getfield 10, 3) := by decide +kernel
theorem dX11_doOrder_62 : decode cX11_doOrder 62 = .ok (.iload_n 2, 1) := by decide +kernel
theorem dX11_doOrder_63 : decode cX11_doOrder 63 = .ok (.invokevirtual 99, 3) := by decide +kernel
theorem dX11_doOrder_66 : decode cX11_doOrder 66 = .ok (.pop, 1) := by decide +kernel
theorem dX11_doOrder_67 : decode cX11_doOrder 67 = .ok (.goto 75, 3) := by decide +kernel
theorem dX11_doOrder_70 : decode cX11_doOrder 70 = .ok (.aload_n 0, 1) := by decide +kernel
theorem dX11_doOrder_71 : decode cX11_doOrder 71 = .ok (.getfield 10, 3) := by decide +kernel
theorem dX11_doOrder_74 : decode cX11_doOrder 74 = .ok (.getfield 105, 3) := by decide +kernel
theorem dX11_doOrder_77 : decode cX11_doOrder 77 = .ok (.iload_n 2, 1) := by decide +kernel
theorem dX11_doOrder_78 : decode cX11_doOrder 78 = .ok (.iload_n 3, 1) := by decide +kernel
theorem dX11_doOrder_79 : decode cX11_doOrder 79 = .ok (.iload 4, 2) := by decide +kernel
theorem dX11_doOrder_81 : decode cX11_doOrder 81 = .ok (.invokevirtual 109, 3) := by decide +kernel
theorem dX11_doOrder_84 : decode cX11_doOrder 84 = .ok (.pop, 1) := by decide +kernel
theorem dX11_doOrder_85 : decode cX11_doOrder 85 = .ok (.goto 57, 3) := by decide +kernel
theorem dX11_doOrder_88 : decode cX11_doOrder 88 = .ok (.aload_n 0, 1) := by decide +kernel
theorem dX11_doOrder_89 : decode cX11_doOrder 89 = .ok (.getfield 10, 3) := by decide +kernel
theorem dX11_doOrder_92 : decode cX11_doOrder 92 = .ok (.iload_n 2, 1) := by decide +kernel
theorem dX11_doOrder_93 : decode cX11_doOrder 93 = .ok (.iload_n 3, 1) := by decide +kernel
theorem dX11_doOrder_94 : decode cX11_doOrder 94 = .ok (.iload 4, 2) := by decide +kernel
theorem dX11_doOrder_96 : decode cX11_doOrder 96 = .ok (.invokevirtual 175, 3) := by decide +kernel
theorem dX11_doOrder_99 : decode cX11_doOrder 99 = .ok (.pop, 1) := by decide +kernel
theorem dX11_doOrder_100 : decode cX11_doOrder 100 = .ok (.goto 42, 3) := by decide +kernel
theorem dX11_doOrder_103 : decode cX11_doOrder 103 = .ok (.aload_n 0, 1) := by decide +kernel
theorem dX11_doOrder_104 : decode cX11_doOrder 104 = .ok (.getfield 10, 3) := by decide +kernel
theorem dX11_doOrder_107 : decode cX11_doOrder 107 = .ok (.getfield 200, 3) := by decide +kernel
theorem dX11_doOrder_110 : decode cX11_doOrder 110 = .ok (.iload_n 2, 1) := by decide +kernel
theorem dX11_doOrder_111 : decode cX11_doOrder 111 = .ok (.invokevirtual 204, 3) := by decide +kernel
theorem dX11_doOrder_114 : decode cX11_doOrder 114 = .ok (.pop, 1) := by decide +kernel
theorem dX11_doOrder_115 : decode cX11_doOrder 115 = .ok (.goto 27, 3) := by decide +kernel
theorem dX11_doOrder_118 : decode cX11_doOrder 118 = .ok (.aload_n 0, 1) := by decide +kernel
theorem dX11_doOrder_119 : decode cX11_doOrder 119 = .ok (.getfield 10, 3) := by decide +kernel
theorem dX11_doOrder_122 : decode cX11_doOrder 122 = .ok (.getfield 200, 3) := by decide +kernel
theorem dX11_doOrder_125 : decode cX11_doOrder 125 = .ok (.iload_n 2, 1) := by decide +kernel
theorem dX11_doOrder_126 : decode cX11_doOrder 126 = .ok (.iload_n 3, 1) := by decide +kernel
theorem dX11_doOrder_127 : decode cX11_doOrder 127 = .ok (.invokevirtual 214, 3) := by decide +kernel
theorem dX11_doOrder_130 : decode cX11_doOrder 130 = .ok (.goto 12, 3) := by decide +kernel
theorem dX11_doOrder_133 : decode cX11_doOrder 133 = .ok (.aload_n 0, 1) := by decide +kernel
theorem dX11_doOrder_134 : decode cX11_doOrder 134 = .ok (.getfield 10, 3) := by decide +kernel
theorem dX11_doOrder_137 : decode cX11_doOrder 137 = .ok (.iload_n 2, 1) := by decide +kernel
theorem dX11_doOrder_138 : decode cX11_doOrder 138 = .ok (.invokevirtual 117, 3) := by decide +kernel
theorem dX11_doOrder_141 : decode cX11_doOrder 141 = .ok (.pop, 1) := by decide +kernel
theorem dX11_doOrder_142 : decode cX11_doOrder 142 = .ok (.return_, 1) := by decide +kernel
theorem k_X11_doOrder : cardV yX11_doOrder (Cond.code yX11_doOrder cX11_doOrder 5 none) 4 := ⟨⟨qi_X11_doOrder, qv_X11_doOrder⟩, qc_X11_doOrder, qn_X11, by decide +kernel, by decide +kernel, by decide +kernel⟩
set_option maxHeartbeats 4000000 in
set_option maxRecDepth 100000 in
theorem c_X11_doOrder (l : Launch) (D : va_G) (g : Nat → ClassId) (q_this q_town q_ahead q_kept q_past q_reason q_orders q_ways q_sheet q_town_houses q_town_halls q_town_posts q_town_blocks q_town_kinds q_town_houses_cells q_town_houses_froms q_town_houses_tos q_town_houses_rings q_town_houses_pranks q_town_halls_rows q_town_halls_firsts q_town_halls_lasts q_town_posts_cells q_town_posts_tolds : Nat) (p1 p2 p3 p4 : Int32) (f_isKept : Int32) (f_town_hour : Int32) (f_town_day : Int32) (f_town_prankHouse : Int32) (f_town_bells : Int32) (f_town_echoes : Int32) (f_town_bellPranks : Int32) (f_town_houses_size : Int32) (a_town_houses_cells : Nat → Int32) (a_town_houses_froms : Nat → Int32) (a_town_houses_tos : Nat → Int32) (a_town_houses_rings : Nat → Int32) (a_town_houses_pranks : Nat → Int32) (f_town_halls_size : Int32) (a_town_halls_rows : Nat → Int32) (a_town_halls_firsts : Nat → Int32) (a_town_halls_lasts : Nat → Int32) (f_town_posts_size : Int32) (a_town_posts_cells : Nat → Int32) (a_town_posts_tolds : Nat → Int32) (a_town_blocks : Nat → Int32) (a_town_kinds : Nat → Int32) (o : Int32 × Int32 × Int32 × Int32 × Int32 × Int32 × Int32 × (Nat → Int32) × (Nat → Int32) × (Nat → Int32) × (Nat → Int32) × (Nat → Int32) × Int32 × (Nat → Int32) × (Nat → Int32) × (Nat → Int32) × Int32 × (Nat → Int32) × (Nat → Int32) × (Nat → Int32) × (Nat → Int32)) (h : F_X11_doOrder p1 p2 p3 p4 f_town_hour f_town_day f_town_prankHouse f_town_bells f_town_echoes f_town_bellPranks f_town_houses_size a_town_houses_cells a_town_houses_froms a_town_houses_tos a_town_houses_rings a_town_houses_pranks f_town_halls_size a_town_halls_rows a_town_halls_firsts a_town_halls_lasts f_town_posts_size a_town_posts_cells a_town_posts_tolds a_town_blocks a_town_kinds = some o) : MW l yX11_doOrder (Cond.code yX11_doOrder cX11_doOrder 5 none) { frames := 5, cells := 0, slots := 0, locals := 133 } D g [.ref q_this, .int p1, .int p2, .int p3, .int p4] [(q_this, .inr (11, [.ref q_town, .ref q_ahead, .ref q_kept, .int f_isKept, .ref q_past, .ref q_reason, .ref q_orders, .ref q_ways, .ref q_sheet])), (q_town, .inr (9, [.ref q_town_houses, .ref q_town_halls, .ref q_town_posts, .ref q_town_blocks, .ref q_town_kinds, .int f_town_hour, .int f_town_day, .int f_town_prankHouse, .int f_town_bells, .int f_town_echoes, .int f_town_bellPranks])), (q_town_houses, .inr (3, [.int f_town_houses_size, .ref q_town_houses_cells, .ref q_town_houses_froms, .ref q_town_houses_tos, .ref q_town_houses_rings, .ref q_town_houses_pranks])), (q_town_houses_cells, .inl (g 0, 10, .inl a_town_houses_cells)), (q_town_houses_froms, .inl (g 0, 10, .inl a_town_houses_froms)), (q_town_houses_tos, .inl (g 0, 10, .inl a_town_houses_tos)), (q_town_houses_rings, .inl (g 0, 10, .inl a_town_houses_rings)), (q_town_houses_pranks, .inl (g 0, 10, .inl a_town_houses_pranks)), (q_town_halls, .inr (2, [.int f_town_halls_size, .ref q_town_halls_rows, .ref q_town_halls_firsts, .ref q_town_halls_lasts])), (q_town_halls_rows, .inl (g 0, 4, .inl a_town_halls_rows)), (q_town_halls_firsts, .inl (g 0, 4, .inl a_town_halls_firsts)), (q_town_halls_lasts, .inl (g 0, 4, .inl a_town_halls_lasts)), (q_town_posts, .inr (6, [.int f_town_posts_size, .ref q_town_posts_cells, .ref q_town_posts_tolds])), (q_town_posts_cells, .inl (g 0, 4, .inl a_town_posts_cells)), (q_town_posts_tolds, .inl (g 0, 4, .inl a_town_posts_tolds)), (q_town_blocks, .inl (g 0, 64, .inl a_town_blocks)), (q_town_kinds, .inl (g 0, 4, .inl a_town_kinds))] none [(q_this, .inr (11, [.ref q_town, .ref q_ahead, .ref q_kept, .int f_isKept, .ref q_past, .ref q_reason, .ref q_orders, .ref q_ways, .ref q_sheet])), (q_town, .inr (9, [.ref q_town_houses, .ref q_town_halls, .ref q_town_posts, .ref q_town_blocks, .ref q_town_kinds, .int o.1, .int o.2.1, .int o.2.2.1, .int o.2.2.2.1, .int o.2.2.2.2.1, .int o.2.2.2.2.2.1])), (q_town_houses, .inr (3, [.int o.2.2.2.2.2.2.1, .ref q_town_houses_cells, .ref q_town_houses_froms, .ref q_town_houses_tos, .ref q_town_houses_rings, .ref q_town_houses_pranks])), (q_town_houses_cells, .inl (g 0, 10, .inl o.2.2.2.2.2.2.2.1)), (q_town_houses_froms, .inl (g 0, 10, .inl o.2.2.2.2.2.2.2.2.1)), (q_town_houses_tos, .inl (g 0, 10, .inl o.2.2.2.2.2.2.2.2.2.1)), (q_town_houses_rings, .inl (g 0, 10, .inl o.2.2.2.2.2.2.2.2.2.2.1)), (q_town_houses_pranks, .inl (g 0, 10, .inl o.2.2.2.2.2.2.2.2.2.2.2.1)), (q_town_halls, .inr (2, [.int o.2.2.2.2.2.2.2.2.2.2.2.2.1, .ref q_town_halls_rows, .ref q_town_halls_firsts, .ref q_town_halls_lasts])), (q_town_halls_rows, .inl (g 0, 4, .inl o.2.2.2.2.2.2.2.2.2.2.2.2.2.1)), (q_town_halls_firsts, .inl (g 0, 4, .inl o.2.2.2.2.2.2.2.2.2.2.2.2.2.2.1)), (q_town_halls_lasts, .inl (g 0, 4, .inl o.2.2.2.2.2.2.2.2.2.2.2.2.2.2.2.1)), (q_town_posts, .inr (6, [.int o.2.2.2.2.2.2.2.2.2.2.2.2.2.2.2.2.1, .ref q_town_posts_cells, .ref q_town_posts_tolds])), (q_town_posts_cells, .inl (g 0, 4, .inl o.2.2.2.2.2.2.2.2.2.2.2.2.2.2.2.2.2.1)), (q_town_posts_tolds, .inl (g 0, 4, .inl o.2.2.2.2.2.2.2.2.2.2.2.2.2.2.2.2.2.2.1)), (q_town_blocks, .inl (g 0, 64, .inl o.2.2.2.2.2.2.2.2.2.2.2.2.2.2.2.2.2.2.2.1)), (q_town_kinds, .inl (g 0, 4, .inl o.2.2.2.2.2.2.2.2.2.2.2.2.2.2.2.2.2.2.2.2))] := by
  refine z_wr_start (by decide) (Nat.le_of_ble_eq_true rfl) ?_
  intro p e s m args below meth c Q A X hr hQ hA
  refine z_lv (lv' := [(0, .ref q_this), (1, .int p1), (2, .int p2), (3, .int p3), (4, .int p4)]) rfl ?_
  refine z_iload_n X 1 dX11_doOrder_0 rfl rfl ?_
  by_cases n1 : p1 = (0 : Int32)
  · have h := brn_t h n1
    refine z_tin (off := 39) 40 X dX11_doOrder_1 (sw_eq (k := 0) n1 (by decide)) (by decide) (by decide) (by decide) (by decide) ?_
    refine z_aload_n X 0 dX11_doOrder_40 rfl rfl ?_
    refine z_get (q0 := 0) (k := 0) (ci := 11) X IW_P iw_X11 rfl qf_X11_X11_town (by decide) dX11_doOrder_41 rfl rfl ?_
    refine z_getN (q0 := 1) (k := 0) (ci := 9) X IW_P iw_X9 rfl qfN_X11_X9_houses (by decide) dX11_doOrder_44 rfl rfl ?_
    refine z_iload_n X 2 dX11_doOrder_47 rfl rfl ?_
    refine z_iload_n X 3 dX11_doOrder_48 rfl rfl ?_
    refine z_iload X 4 dX11_doOrder_49 rfl ?_
    obtain ⟨o2, e3, h⟩ := bnd_p h
    refine z_wrV (rest := []) (q0 := 2) (ci := 3) (ws' := [(q_this, .inr (11, [.ref q_town, .ref q_ahead, .ref q_kept, .int f_isKept, .ref q_past, .ref q_reason, .ref q_orders, .ref q_ways, .ref q_sheet])), (q_town, .inr (9, [.ref q_town_houses, .ref q_town_halls, .ref q_town_posts, .ref q_town_blocks, .ref q_town_kinds, .int f_town_hour, .int f_town_day, .int f_town_prankHouse, .int f_town_bells, .int f_town_echoes, .int f_town_bellPranks])), (q_town_houses, .inr (3, [.int o2.2.1, .ref q_town_houses_cells, .ref q_town_houses_froms, .ref q_town_houses_tos, .ref q_town_houses_rings, .ref q_town_houses_pranks])), (q_town_houses_cells, .inl (g 0, 10, .inl o2.2.2.1)), (q_town_houses_froms, .inl (g 0, 10, .inl o2.2.2.2.1)), (q_town_houses_tos, .inl (g 0, 10, .inl o2.2.2.2.2.1)), (q_town_houses_rings, .inl (g 0, 10, .inl o2.2.2.2.2.2.1)), (q_town_houses_pranks, .inl (g 0, 10, .inl o2.2.2.2.2.2.2)), (q_town_halls, .inr (2, [.int f_town_halls_size, .ref q_town_halls_rows, .ref q_town_halls_firsts, .ref q_town_halls_lasts])), (q_town_halls_rows, .inl (g 0, 4, .inl a_town_halls_rows)), (q_town_halls_firsts, .inl (g 0, 4, .inl a_town_halls_firsts)), (q_town_halls_lasts, .inl (g 0, 4, .inl a_town_halls_lasts)), (q_town_posts, .inr (6, [.int f_town_posts_size, .ref q_town_posts_cells, .ref q_town_posts_tolds])), (q_town_posts_cells, .inl (g 0, 4, .inl a_town_posts_cells)), (q_town_posts_tolds, .inl (g 0, 4, .inl a_town_posts_tolds)), (q_town_blocks, .inl (g 0, 64, .inl a_town_blocks)), (q_town_kinds, .inl (g 0, 4, .inl a_town_kinds))]) (wr := [(q_this, .inr (11, [.ref q_town, .ref q_ahead, .ref q_kept, .int f_isKept, .ref q_past, .ref q_reason, .ref q_orders, .ref q_ways, .ref q_sheet])), (q_town, .inr (9, [.ref q_town_houses, .ref q_town_halls, .ref q_town_posts, .ref q_town_blocks, .ref q_town_kinds, .int f_town_hour, .int f_town_day, .int f_town_prankHouse, .int f_town_bells, .int f_town_echoes, .int f_town_bellPranks])), (q_town_halls, .inr (2, [.int f_town_halls_size, .ref q_town_halls_rows, .ref q_town_halls_firsts, .ref q_town_halls_lasts])), (q_town_halls_rows, .inl (g 0, 4, .inl a_town_halls_rows)), (q_town_halls_firsts, .inl (g 0, 4, .inl a_town_halls_firsts)), (q_town_halls_lasts, .inl (g 0, 4, .inl a_town_halls_lasts)), (q_town_posts, .inr (6, [.int f_town_posts_size, .ref q_town_posts_cells, .ref q_town_posts_tolds])), (q_town_posts_cells, .inl (g 0, 4, .inl a_town_posts_cells)), (q_town_posts_tolds, .inl (g 0, 4, .inl a_town_posts_tolds)), (q_town_blocks, .inl (g 0, 64, .inl a_town_blocks)), (q_town_kinds, .inl (g 0, 4, .inl a_town_kinds))]) (as := [q_this, q_town, q_town_houses, q_town_houses_cells, q_town_houses_froms, q_town_houses_tos, q_town_houses_rings, q_town_houses_pranks, q_town_halls, q_town_halls_rows, q_town_halls_firsts, q_town_halls_lasts, q_town_posts, q_town_posts_cells, q_town_posts_tolds, q_town_blocks, q_town_kinds]) X k_X2_add (c_X2_add l D g q_town_houses q_town_houses_cells q_town_houses_froms q_town_houses_tos q_town_houses_rings q_town_houses_pranks p2 p3 p4 f_town_houses_size a_town_houses_cells a_town_houses_froms a_town_houses_tos a_town_houses_rings a_town_houses_pranks o2 e3) ql_X11_X2_add dX11_doOrder_51 [2, 3, 4, 5, 6, 7] [0, 1, 8, 9, 10, 11, 12, 13, 14, 15, 16] ⟨rfl, rfl, rfl, rfl, rfl, rfl, rfl, rfl⟩ rfl rfl rfl rfl rfl ⟨Nat.le_of_ble_eq_true rfl, Nat.le_of_ble_eq_true rfl, rfl, rfl, Nat.le_of_ble_eq_true rfl, Nat.le_of_ble_eq_true rfl⟩ (Nat.le_of_ble_eq_true rfl) ?_
    refine z_pop X dX11_doOrder_54 rfl ?_
    refine z_goto X 142 dX11_doOrder_55 (by decide) ?_
    cases h
    exact z_vretW X hQ hA hr dX11_doOrder_142
  have h := brn_f h n1
  by_cases n4 : p1 = (1 : Int32)
  · have h := brn_t h n4
    refine z_tin (off := 57) 58 X dX11_doOrder_1 (sw_eq (k := 1) n4 (by decide)) (by decide) (by decide) (by decide) (by decide) ?_
    refine z_aload_n X 0 dX11_doOrder_58 rfl rfl ?_
    refine z_get (q0 := 0) (k := 0) (ci := 11) X IW_P iw_X11 rfl qf_X11_X11_town (by decide) dX11_doOrder_59 rfl rfl ?_
    refine z_iload_n X 2 dX11_doOrder_62 rfl rfl ?_
    obtain ⟨o5, e6, h⟩ := bnd_p h
    refine z_wrV (rest := []) (q0 := 1) (ci := 9) (ws' := [(q_this, .inr (11, [.ref q_town, .ref q_ahead, .ref q_kept, .int f_isKept, .ref q_past, .ref q_reason, .ref q_orders, .ref q_ways, .ref q_sheet])), (q_town, .inr (9, [.ref q_town_houses, .ref q_town_halls, .ref q_town_posts, .ref q_town_blocks, .ref q_town_kinds, .int f_town_hour, .int f_town_day, .int f_town_prankHouse, .int f_town_bells, .int f_town_echoes, .int f_town_bellPranks])), (q_town_houses, .inr (3, [.int f_town_houses_size, .ref q_town_houses_cells, .ref q_town_houses_froms, .ref q_town_houses_tos, .ref q_town_houses_rings, .ref q_town_houses_pranks])), (q_town_houses_cells, .inl (g 0, 10, .inl a_town_houses_cells)), (q_town_houses_froms, .inl (g 0, 10, .inl a_town_houses_froms)), (q_town_houses_tos, .inl (g 0, 10, .inl a_town_houses_tos)), (q_town_houses_rings, .inl (g 0, 10, .inl a_town_houses_rings)), (q_town_houses_pranks, .inl (g 0, 10, .inl a_town_houses_pranks)), (q_town_halls, .inr (2, [.int f_town_halls_size, .ref q_town_halls_rows, .ref q_town_halls_firsts, .ref q_town_halls_lasts])), (q_town_halls_rows, .inl (g 0, 4, .inl a_town_halls_rows)), (q_town_halls_firsts, .inl (g 0, 4, .inl a_town_halls_firsts)), (q_town_halls_lasts, .inl (g 0, 4, .inl a_town_halls_lasts)), (q_town_posts, .inr (6, [.int f_town_posts_size, .ref q_town_posts_cells, .ref q_town_posts_tolds])), (q_town_posts_cells, .inl (g 0, 4, .inl a_town_posts_cells)), (q_town_posts_tolds, .inl (g 0, 4, .inl a_town_posts_tolds)), (q_town_blocks, .inl (g 0, 64, .inl o5.2)), (q_town_kinds, .inl (g 0, 4, .inl a_town_kinds))]) (wr := [(q_this, .inr (11, [.ref q_town, .ref q_ahead, .ref q_kept, .int f_isKept, .ref q_past, .ref q_reason, .ref q_orders, .ref q_ways, .ref q_sheet])), (q_town_houses, .inr (3, [.int f_town_houses_size, .ref q_town_houses_cells, .ref q_town_houses_froms, .ref q_town_houses_tos, .ref q_town_houses_rings, .ref q_town_houses_pranks])), (q_town_houses_cells, .inl (g 0, 10, .inl a_town_houses_cells)), (q_town_houses_froms, .inl (g 0, 10, .inl a_town_houses_froms)), (q_town_houses_tos, .inl (g 0, 10, .inl a_town_houses_tos)), (q_town_houses_rings, .inl (g 0, 10, .inl a_town_houses_rings)), (q_town_houses_pranks, .inl (g 0, 10, .inl a_town_houses_pranks)), (q_town_halls, .inr (2, [.int f_town_halls_size, .ref q_town_halls_rows, .ref q_town_halls_firsts, .ref q_town_halls_lasts])), (q_town_halls_rows, .inl (g 0, 4, .inl a_town_halls_rows)), (q_town_halls_firsts, .inl (g 0, 4, .inl a_town_halls_firsts)), (q_town_halls_lasts, .inl (g 0, 4, .inl a_town_halls_lasts)), (q_town_posts, .inr (6, [.int f_town_posts_size, .ref q_town_posts_cells, .ref q_town_posts_tolds])), (q_town_posts_cells, .inl (g 0, 4, .inl a_town_posts_cells)), (q_town_posts_tolds, .inl (g 0, 4, .inl a_town_posts_tolds)), (q_town_kinds, .inl (g 0, 4, .inl a_town_kinds))]) (as := [q_this, q_town, q_town_houses, q_town_houses_cells, q_town_houses_froms, q_town_houses_tos, q_town_houses_rings, q_town_houses_pranks, q_town_halls, q_town_halls_rows, q_town_halls_firsts, q_town_halls_lasts, q_town_posts, q_town_posts_cells, q_town_posts_tolds, q_town_blocks, q_town_kinds]) X k_X9_turnBlock (c_X9_turnBlock l D g q_town q_town_houses q_town_halls q_town_posts q_town_blocks q_town_kinds p2 f_town_hour f_town_day f_town_prankHouse f_town_bells f_town_echoes f_town_bellPranks a_town_blocks o5 e6) ql_X11_X9_turnBlock dX11_doOrder_63 [1, 15] [0, 2, 3, 4, 5, 6, 7, 8, 9, 10, 11, 12, 13, 14, 16] ⟨rfl, rfl, rfl, rfl, rfl, rfl, rfl, rfl⟩ rfl rfl rfl rfl rfl ⟨Nat.le_of_ble_eq_true rfl, Nat.le_of_ble_eq_true rfl, rfl, rfl, Nat.le_of_ble_eq_true rfl, Nat.le_of_ble_eq_true rfl⟩ (Nat.le_of_ble_eq_true rfl) ?_
    refine z_pop X dX11_doOrder_66 rfl ?_
    refine z_goto X 142 dX11_doOrder_67 (by decide) ?_
    cases h
    exact z_vretW X hQ hA hr dX11_doOrder_142
  have h := brn_f h n4
  by_cases n7 : p1 = (2 : Int32)
  · have h := brn_t h n7
    refine z_tin (off := 69) 70 X dX11_doOrder_1 (sw_eq (k := 2) n7 (by decide)) (by decide) (by decide) (by decide) (by decide) ?_
    refine z_aload_n X 0 dX11_doOrder_70 rfl rfl ?_
    refine z_get (q0 := 0) (k := 0) (ci := 11) X IW_P iw_X11 rfl qf_X11_X11_town (by decide) dX11_doOrder_71 rfl rfl ?_
    refine z_getN (q0 := 1) (k := 1) (ci := 9) X IW_P iw_X9 rfl qfN_X11_X9_halls (by decide) dX11_doOrder_74 rfl rfl ?_
    refine z_iload_n X 2 dX11_doOrder_77 rfl rfl ?_
    refine z_iload_n X 3 dX11_doOrder_78 rfl rfl ?_
    refine z_iload X 4 dX11_doOrder_79 rfl ?_
    obtain ⟨o8, e9, h⟩ := bnd_p h
    refine z_wrV (rest := []) (q0 := 8) (ci := 2) (ws' := [(q_this, .inr (11, [.ref q_town, .ref q_ahead, .ref q_kept, .int f_isKept, .ref q_past, .ref q_reason, .ref q_orders, .ref q_ways, .ref q_sheet])), (q_town, .inr (9, [.ref q_town_houses, .ref q_town_halls, .ref q_town_posts, .ref q_town_blocks, .ref q_town_kinds, .int f_town_hour, .int f_town_day, .int f_town_prankHouse, .int f_town_bells, .int f_town_echoes, .int f_town_bellPranks])), (q_town_houses, .inr (3, [.int f_town_houses_size, .ref q_town_houses_cells, .ref q_town_houses_froms, .ref q_town_houses_tos, .ref q_town_houses_rings, .ref q_town_houses_pranks])), (q_town_houses_cells, .inl (g 0, 10, .inl a_town_houses_cells)), (q_town_houses_froms, .inl (g 0, 10, .inl a_town_houses_froms)), (q_town_houses_tos, .inl (g 0, 10, .inl a_town_houses_tos)), (q_town_houses_rings, .inl (g 0, 10, .inl a_town_houses_rings)), (q_town_houses_pranks, .inl (g 0, 10, .inl a_town_houses_pranks)), (q_town_halls, .inr (2, [.int o8.2.1, .ref q_town_halls_rows, .ref q_town_halls_firsts, .ref q_town_halls_lasts])), (q_town_halls_rows, .inl (g 0, 4, .inl o8.2.2.1)), (q_town_halls_firsts, .inl (g 0, 4, .inl o8.2.2.2.1)), (q_town_halls_lasts, .inl (g 0, 4, .inl o8.2.2.2.2)), (q_town_posts, .inr (6, [.int f_town_posts_size, .ref q_town_posts_cells, .ref q_town_posts_tolds])), (q_town_posts_cells, .inl (g 0, 4, .inl a_town_posts_cells)), (q_town_posts_tolds, .inl (g 0, 4, .inl a_town_posts_tolds)), (q_town_blocks, .inl (g 0, 64, .inl a_town_blocks)), (q_town_kinds, .inl (g 0, 4, .inl a_town_kinds))]) (wr := [(q_this, .inr (11, [.ref q_town, .ref q_ahead, .ref q_kept, .int f_isKept, .ref q_past, .ref q_reason, .ref q_orders, .ref q_ways, .ref q_sheet])), (q_town, .inr (9, [.ref q_town_houses, .ref q_town_halls, .ref q_town_posts, .ref q_town_blocks, .ref q_town_kinds, .int f_town_hour, .int f_town_day, .int f_town_prankHouse, .int f_town_bells, .int f_town_echoes, .int f_town_bellPranks])), (q_town_houses, .inr (3, [.int f_town_houses_size, .ref q_town_houses_cells, .ref q_town_houses_froms, .ref q_town_houses_tos, .ref q_town_houses_rings, .ref q_town_houses_pranks])), (q_town_houses_cells, .inl (g 0, 10, .inl a_town_houses_cells)), (q_town_houses_froms, .inl (g 0, 10, .inl a_town_houses_froms)), (q_town_houses_tos, .inl (g 0, 10, .inl a_town_houses_tos)), (q_town_houses_rings, .inl (g 0, 10, .inl a_town_houses_rings)), (q_town_houses_pranks, .inl (g 0, 10, .inl a_town_houses_pranks)), (q_town_posts, .inr (6, [.int f_town_posts_size, .ref q_town_posts_cells, .ref q_town_posts_tolds])), (q_town_posts_cells, .inl (g 0, 4, .inl a_town_posts_cells)), (q_town_posts_tolds, .inl (g 0, 4, .inl a_town_posts_tolds)), (q_town_blocks, .inl (g 0, 64, .inl a_town_blocks)), (q_town_kinds, .inl (g 0, 4, .inl a_town_kinds))]) (as := [q_this, q_town, q_town_houses, q_town_houses_cells, q_town_houses_froms, q_town_houses_tos, q_town_houses_rings, q_town_houses_pranks, q_town_halls, q_town_halls_rows, q_town_halls_firsts, q_town_halls_lasts, q_town_posts, q_town_posts_cells, q_town_posts_tolds, q_town_blocks, q_town_kinds]) X k_X1_add (c_X1_add l D g q_town_halls q_town_halls_rows q_town_halls_firsts q_town_halls_lasts p2 p3 p4 f_town_halls_size a_town_halls_rows a_town_halls_firsts a_town_halls_lasts o8 e9) ql_X11_X1_add dX11_doOrder_81 [8, 9, 10, 11] [0, 1, 2, 3, 4, 5, 6, 7, 12, 13, 14, 15, 16] ⟨rfl, rfl, rfl, rfl, rfl, rfl, rfl, rfl⟩ rfl rfl rfl rfl rfl ⟨Nat.le_of_ble_eq_true rfl, Nat.le_of_ble_eq_true rfl, rfl, rfl, Nat.le_of_ble_eq_true rfl, Nat.le_of_ble_eq_true rfl⟩ (Nat.le_of_ble_eq_true rfl) ?_
    refine z_pop X dX11_doOrder_84 rfl ?_
    refine z_goto X 142 dX11_doOrder_85 (by decide) ?_
    cases h
    exact z_vretW X hQ hA hr dX11_doOrder_142
  have h := brn_f h n7
  by_cases n10 : p1 = (3 : Int32)
  · have h := brn_t h n10
    refine z_tin (off := 87) 88 X dX11_doOrder_1 (sw_eq (k := 3) n10 (by decide)) (by decide) (by decide) (by decide) (by decide) ?_
    refine z_aload_n X 0 dX11_doOrder_88 rfl rfl ?_
    refine z_get (q0 := 0) (k := 0) (ci := 11) X IW_P iw_X11 rfl qf_X11_X11_town (by decide) dX11_doOrder_89 rfl rfl ?_
    refine z_iload_n X 2 dX11_doOrder_92 rfl rfl ?_
    refine z_iload_n X 3 dX11_doOrder_93 rfl rfl ?_
    refine z_iload X 4 dX11_doOrder_94 rfl ?_
    obtain ⟨o11, e12, h⟩ := bnd_p h
    refine z_wrV (rest := []) (q0 := 1) (ci := 9) (ws' := [(q_this, .inr (11, [.ref q_town, .ref q_ahead, .ref q_kept, .int f_isKept, .ref q_past, .ref q_reason, .ref q_orders, .ref q_ways, .ref q_sheet])), (q_town, .inr (9, [.ref q_town_houses, .ref q_town_halls, .ref q_town_posts, .ref q_town_blocks, .ref q_town_kinds, .int f_town_hour, .int f_town_day, .int o11.2.1, .int o11.2.2.1, .int o11.2.2.2.1, .int o11.2.2.2.2.1])), (q_town_houses, .inr (3, [.int f_town_houses_size, .ref q_town_houses_cells, .ref q_town_houses_froms, .ref q_town_houses_tos, .ref q_town_houses_rings, .ref q_town_houses_pranks])), (q_town_houses_cells, .inl (g 0, 10, .inl a_town_houses_cells)), (q_town_houses_froms, .inl (g 0, 10, .inl a_town_houses_froms)), (q_town_houses_tos, .inl (g 0, 10, .inl a_town_houses_tos)), (q_town_houses_rings, .inl (g 0, 10, .inl o11.2.2.2.2.2.1)), (q_town_houses_pranks, .inl (g 0, 10, .inl o11.2.2.2.2.2.2.1)), (q_town_halls, .inr (2, [.int f_town_halls_size, .ref q_town_halls_rows, .ref q_town_halls_firsts, .ref q_town_halls_lasts])), (q_town_halls_rows, .inl (g 0, 4, .inl a_town_halls_rows)), (q_town_halls_firsts, .inl (g 0, 4, .inl a_town_halls_firsts)), (q_town_halls_lasts, .inl (g 0, 4, .inl a_town_halls_lasts)), (q_town_posts, .inr (6, [.int f_town_posts_size, .ref q_town_posts_cells, .ref q_town_posts_tolds])), (q_town_posts_cells, .inl (g 0, 4, .inl a_town_posts_cells)), (q_town_posts_tolds, .inl (g 0, 4, .inl o11.2.2.2.2.2.2.2.1)), (q_town_blocks, .inl (g 0, 64, .inl a_town_blocks)), (q_town_kinds, .inl (g 0, 4, .inl o11.2.2.2.2.2.2.2.2))]) (wr := [(q_this, .inr (11, [.ref q_town, .ref q_ahead, .ref q_kept, .int f_isKept, .ref q_past, .ref q_reason, .ref q_orders, .ref q_ways, .ref q_sheet])), (q_town_posts_cells, .inl (g 0, 4, .inl a_town_posts_cells)), (q_town_blocks, .inl (g 0, 64, .inl a_town_blocks))]) (as := [q_this, q_town, q_town_houses, q_town_houses_cells, q_town_houses_froms, q_town_houses_tos, q_town_houses_rings, q_town_houses_pranks, q_town_halls, q_town_halls_rows, q_town_halls_firsts, q_town_halls_lasts, q_town_posts, q_town_posts_cells, q_town_posts_tolds, q_town_blocks, q_town_kinds]) X k_X9_ringAt (c_X9_ringAt l D g q_town q_town_houses q_town_halls q_town_posts q_town_blocks q_town_kinds q_town_houses_cells q_town_houses_froms q_town_houses_tos q_town_houses_rings q_town_houses_pranks q_town_halls_rows q_town_halls_firsts q_town_halls_lasts q_town_posts_cells q_town_posts_tolds p2 p3 p4 f_town_hour f_town_day f_town_prankHouse f_town_bells f_town_echoes f_town_bellPranks f_town_houses_size a_town_houses_cells a_town_houses_froms a_town_houses_tos a_town_houses_rings a_town_houses_pranks f_town_halls_size a_town_halls_rows a_town_halls_firsts a_town_halls_lasts f_town_posts_size a_town_posts_tolds a_town_kinds o11 e12) ql_X11_X9_ringAt dX11_doOrder_96 [1, 2, 3, 4, 5, 6, 7, 8, 9, 10, 11, 12, 14, 16] [0, 13, 15] ⟨rfl, rfl, rfl, rfl, rfl, rfl, rfl, rfl⟩ rfl rfl rfl rfl rfl ⟨Nat.le_of_ble_eq_true rfl, Nat.le_of_ble_eq_true rfl, rfl, rfl, Nat.le_of_ble_eq_true rfl, Nat.le_of_ble_eq_true rfl⟩ (Nat.le_of_ble_eq_true rfl) ?_
    refine z_pop X dX11_doOrder_99 rfl ?_
    refine z_goto X 142 dX11_doOrder_100 (by decide) ?_
    cases h
    exact z_vretW X hQ hA hr dX11_doOrder_142
  have h := brn_f h n10
  by_cases n13 : p1 = (4 : Int32)
  · have h := brn_t h n13
    refine z_tin (off := 102) 103 X dX11_doOrder_1 (sw_eq (k := 4) n13 (by decide)) (by decide) (by decide) (by decide) (by decide) ?_
    refine z_aload_n X 0 dX11_doOrder_103 rfl rfl ?_
    refine z_get (q0 := 0) (k := 0) (ci := 11) X IW_P iw_X11 rfl qf_X11_X11_town (by decide) dX11_doOrder_104 rfl rfl ?_
    refine z_getN (q0 := 1) (k := 2) (ci := 9) X IW_P iw_X9 rfl qfN_X11_X9_posts (by decide) dX11_doOrder_107 rfl rfl ?_
    refine z_iload_n X 2 dX11_doOrder_110 rfl rfl ?_
    obtain ⟨o14, e15, h⟩ := bnd_p h
    refine z_wrV (rest := []) (q0 := 12) (ci := 6) (ws' := [(q_this, .inr (11, [.ref q_town, .ref q_ahead, .ref q_kept, .int f_isKept, .ref q_past, .ref q_reason, .ref q_orders, .ref q_ways, .ref q_sheet])), (q_town, .inr (9, [.ref q_town_houses, .ref q_town_halls, .ref q_town_posts, .ref q_town_blocks, .ref q_town_kinds, .int f_town_hour, .int f_town_day, .int f_town_prankHouse, .int f_town_bells, .int f_town_echoes, .int f_town_bellPranks])), (q_town_houses, .inr (3, [.int f_town_houses_size, .ref q_town_houses_cells, .ref q_town_houses_froms, .ref q_town_houses_tos, .ref q_town_houses_rings, .ref q_town_houses_pranks])), (q_town_houses_cells, .inl (g 0, 10, .inl a_town_houses_cells)), (q_town_houses_froms, .inl (g 0, 10, .inl a_town_houses_froms)), (q_town_houses_tos, .inl (g 0, 10, .inl a_town_houses_tos)), (q_town_houses_rings, .inl (g 0, 10, .inl a_town_houses_rings)), (q_town_houses_pranks, .inl (g 0, 10, .inl a_town_houses_pranks)), (q_town_halls, .inr (2, [.int f_town_halls_size, .ref q_town_halls_rows, .ref q_town_halls_firsts, .ref q_town_halls_lasts])), (q_town_halls_rows, .inl (g 0, 4, .inl a_town_halls_rows)), (q_town_halls_firsts, .inl (g 0, 4, .inl a_town_halls_firsts)), (q_town_halls_lasts, .inl (g 0, 4, .inl a_town_halls_lasts)), (q_town_posts, .inr (6, [.int o14.2.1, .ref q_town_posts_cells, .ref q_town_posts_tolds])), (q_town_posts_cells, .inl (g 0, 4, .inl o14.2.2.1)), (q_town_posts_tolds, .inl (g 0, 4, .inl o14.2.2.2)), (q_town_blocks, .inl (g 0, 64, .inl a_town_blocks)), (q_town_kinds, .inl (g 0, 4, .inl a_town_kinds))]) (wr := [(q_this, .inr (11, [.ref q_town, .ref q_ahead, .ref q_kept, .int f_isKept, .ref q_past, .ref q_reason, .ref q_orders, .ref q_ways, .ref q_sheet])), (q_town, .inr (9, [.ref q_town_houses, .ref q_town_halls, .ref q_town_posts, .ref q_town_blocks, .ref q_town_kinds, .int f_town_hour, .int f_town_day, .int f_town_prankHouse, .int f_town_bells, .int f_town_echoes, .int f_town_bellPranks])), (q_town_houses, .inr (3, [.int f_town_houses_size, .ref q_town_houses_cells, .ref q_town_houses_froms, .ref q_town_houses_tos, .ref q_town_houses_rings, .ref q_town_houses_pranks])), (q_town_houses_cells, .inl (g 0, 10, .inl a_town_houses_cells)), (q_town_houses_froms, .inl (g 0, 10, .inl a_town_houses_froms)), (q_town_houses_tos, .inl (g 0, 10, .inl a_town_houses_tos)), (q_town_houses_rings, .inl (g 0, 10, .inl a_town_houses_rings)), (q_town_houses_pranks, .inl (g 0, 10, .inl a_town_houses_pranks)), (q_town_halls, .inr (2, [.int f_town_halls_size, .ref q_town_halls_rows, .ref q_town_halls_firsts, .ref q_town_halls_lasts])), (q_town_halls_rows, .inl (g 0, 4, .inl a_town_halls_rows)), (q_town_halls_firsts, .inl (g 0, 4, .inl a_town_halls_firsts)), (q_town_halls_lasts, .inl (g 0, 4, .inl a_town_halls_lasts)), (q_town_blocks, .inl (g 0, 64, .inl a_town_blocks)), (q_town_kinds, .inl (g 0, 4, .inl a_town_kinds))]) (as := [q_this, q_town, q_town_houses, q_town_houses_cells, q_town_houses_froms, q_town_houses_tos, q_town_houses_rings, q_town_houses_pranks, q_town_halls, q_town_halls_rows, q_town_halls_firsts, q_town_halls_lasts, q_town_posts, q_town_posts_cells, q_town_posts_tolds, q_town_blocks, q_town_kinds]) X k_X5_add (c_X5_add l D g q_town_posts q_town_posts_cells q_town_posts_tolds p2 f_town_posts_size a_town_posts_cells a_town_posts_tolds o14 e15) ql_X11_X5_add dX11_doOrder_111 [12, 13, 14] [0, 1, 2, 3, 4, 5, 6, 7, 8, 9, 10, 11, 15, 16] ⟨rfl, rfl, rfl, rfl, rfl, rfl, rfl, rfl⟩ rfl rfl rfl rfl rfl ⟨Nat.le_of_ble_eq_true rfl, Nat.le_of_ble_eq_true rfl, rfl, rfl, Nat.le_of_ble_eq_true rfl, Nat.le_of_ble_eq_true rfl⟩ (Nat.le_of_ble_eq_true rfl) ?_
    refine z_pop X dX11_doOrder_114 rfl ?_
    refine z_goto X 142 dX11_doOrder_115 (by decide) ?_
    cases h
    exact z_vretW X hQ hA hr dX11_doOrder_142
  have h := brn_f h n13
  by_cases n16 : p1 = (5 : Int32)
  · have h := brn_t h n16
    refine z_tin (off := 117) 118 X dX11_doOrder_1 (sw_eq (k := 5) n16 (by decide)) (by decide) (by decide) (by decide) (by decide) ?_
    refine z_aload_n X 0 dX11_doOrder_118 rfl rfl ?_
    refine z_get (q0 := 0) (k := 0) (ci := 11) X IW_P iw_X11 rfl qf_X11_X11_town (by decide) dX11_doOrder_119 rfl rfl ?_
    refine z_getN (q0 := 1) (k := 2) (ci := 9) X IW_P iw_X9 rfl qfN_X11_X9_posts (by decide) dX11_doOrder_122 rfl rfl ?_
    refine z_iload_n X 2 dX11_doOrder_125 rfl rfl ?_
    refine z_iload_n X 3 dX11_doOrder_126 rfl rfl ?_
    obtain ⟨o17, e18, h⟩ := bnd_p h
    refine z_wrV (rest := []) (q0 := 12) (ci := 6) (ws' := [(q_this, .inr (11, [.ref q_town, .ref q_ahead, .ref q_kept, .int f_isKept, .ref q_past, .ref q_reason, .ref q_orders, .ref q_ways, .ref q_sheet])), (q_town, .inr (9, [.ref q_town_houses, .ref q_town_halls, .ref q_town_posts, .ref q_town_blocks, .ref q_town_kinds, .int f_town_hour, .int f_town_day, .int f_town_prankHouse, .int f_town_bells, .int f_town_echoes, .int f_town_bellPranks])), (q_town_houses, .inr (3, [.int f_town_houses_size, .ref q_town_houses_cells, .ref q_town_houses_froms, .ref q_town_houses_tos, .ref q_town_houses_rings, .ref q_town_houses_pranks])), (q_town_houses_cells, .inl (g 0, 10, .inl a_town_houses_cells)), (q_town_houses_froms, .inl (g 0, 10, .inl a_town_houses_froms)), (q_town_houses_tos, .inl (g 0, 10, .inl a_town_houses_tos)), (q_town_houses_rings, .inl (g 0, 10, .inl a_town_houses_rings)), (q_town_houses_pranks, .inl (g 0, 10, .inl a_town_houses_pranks)), (q_town_halls, .inr (2, [.int f_town_halls_size, .ref q_town_halls_rows, .ref q_town_halls_firsts, .ref q_town_halls_lasts])), (q_town_halls_rows, .inl (g 0, 4, .inl a_town_halls_rows)), (q_town_halls_firsts, .inl (g 0, 4, .inl a_town_halls_firsts)), (q_town_halls_lasts, .inl (g 0, 4, .inl a_town_halls_lasts)), (q_town_posts, .inr (6, [.int f_town_posts_size, .ref q_town_posts_cells, .ref q_town_posts_tolds])), (q_town_posts_cells, .inl (g 0, 4, .inl a_town_posts_cells)), (q_town_posts_tolds, .inl (g 0, 4, .inl o17)), (q_town_blocks, .inl (g 0, 64, .inl a_town_blocks)), (q_town_kinds, .inl (g 0, 4, .inl a_town_kinds))]) (wr := [(q_this, .inr (11, [.ref q_town, .ref q_ahead, .ref q_kept, .int f_isKept, .ref q_past, .ref q_reason, .ref q_orders, .ref q_ways, .ref q_sheet])), (q_town, .inr (9, [.ref q_town_houses, .ref q_town_halls, .ref q_town_posts, .ref q_town_blocks, .ref q_town_kinds, .int f_town_hour, .int f_town_day, .int f_town_prankHouse, .int f_town_bells, .int f_town_echoes, .int f_town_bellPranks])), (q_town_houses, .inr (3, [.int f_town_houses_size, .ref q_town_houses_cells, .ref q_town_houses_froms, .ref q_town_houses_tos, .ref q_town_houses_rings, .ref q_town_houses_pranks])), (q_town_houses_cells, .inl (g 0, 10, .inl a_town_houses_cells)), (q_town_houses_froms, .inl (g 0, 10, .inl a_town_houses_froms)), (q_town_houses_tos, .inl (g 0, 10, .inl a_town_houses_tos)), (q_town_houses_rings, .inl (g 0, 10, .inl a_town_houses_rings)), (q_town_houses_pranks, .inl (g 0, 10, .inl a_town_houses_pranks)), (q_town_halls, .inr (2, [.int f_town_halls_size, .ref q_town_halls_rows, .ref q_town_halls_firsts, .ref q_town_halls_lasts])), (q_town_halls_rows, .inl (g 0, 4, .inl a_town_halls_rows)), (q_town_halls_firsts, .inl (g 0, 4, .inl a_town_halls_firsts)), (q_town_halls_lasts, .inl (g 0, 4, .inl a_town_halls_lasts)), (q_town_posts_cells, .inl (g 0, 4, .inl a_town_posts_cells)), (q_town_blocks, .inl (g 0, 64, .inl a_town_blocks)), (q_town_kinds, .inl (g 0, 4, .inl a_town_kinds))]) (as := [q_this, q_town, q_town_houses, q_town_houses_cells, q_town_houses_froms, q_town_houses_tos, q_town_houses_rings, q_town_houses_pranks, q_town_halls, q_town_halls_rows, q_town_halls_firsts, q_town_halls_lasts, q_town_posts, q_town_posts_cells, q_town_posts_tolds, q_town_blocks, q_town_kinds]) X k_X5_setTold (c_X5_setTold l D g q_town_posts q_town_posts_cells q_town_posts_tolds p2 p3 f_town_posts_size a_town_posts_tolds o17 e18) ql_X11_X5_setTold dX11_doOrder_127 [12, 14] [0, 1, 2, 3, 4, 5, 6, 7, 8, 9, 10, 11, 13, 15, 16] ⟨rfl, rfl, rfl, rfl, rfl, rfl, rfl, rfl⟩ rfl rfl rfl rfl rfl ⟨Nat.le_of_ble_eq_true rfl, Nat.le_of_ble_eq_true rfl, rfl, rfl, Nat.le_of_ble_eq_true rfl, Nat.le_of_ble_eq_true rfl⟩ (Nat.le_of_ble_eq_true rfl) ?_
    refine z_goto X 142 dX11_doOrder_130 (by decide) ?_
    cases h
    exact z_vretW X hQ hA hr dX11_doOrder_142
  have h := brn_f h n16
  refine z_tdef 133 [0, 1, 2, 3, 4, 5] X dX11_doOrder_1 (by decide) (by decide) (List.forall_mem_cons.mpr ⟨sw_ne n1 (by decide), List.forall_mem_cons.mpr ⟨sw_ne n4 (by decide), List.forall_mem_cons.mpr ⟨sw_ne n7 (by decide), List.forall_mem_cons.mpr ⟨sw_ne n10 (by decide), List.forall_mem_cons.mpr ⟨sw_ne n13 (by decide), List.forall_mem_cons.mpr ⟨sw_ne n16 (by decide), fun _ hk => absurd hk List.not_mem_nil⟩⟩⟩⟩⟩⟩) (by decide) ?_
  refine z_aload_n X 0 dX11_doOrder_133 rfl rfl ?_
  refine z_get (q0 := 0) (k := 0) (ci := 11) X IW_P iw_X11 rfl qf_X11_X11_town (by decide) dX11_doOrder_134 rfl rfl ?_
  refine z_iload_n X 2 dX11_doOrder_137 rfl rfl ?_
  obtain ⟨o19, e20, h⟩ := bnd_p h
  refine z_wrV (rest := []) (q0 := 1) (ci := 9) (ws' := [(q_this, .inr (11, [.ref q_town, .ref q_ahead, .ref q_kept, .int f_isKept, .ref q_past, .ref q_reason, .ref q_orders, .ref q_ways, .ref q_sheet])), (q_town, .inr (9, [.ref q_town_houses, .ref q_town_halls, .ref q_town_posts, .ref q_town_blocks, .ref q_town_kinds, .int o19.2.1, .int o19.2.2, .int f_town_prankHouse, .int f_town_bells, .int f_town_echoes, .int f_town_bellPranks])), (q_town_houses, .inr (3, [.int f_town_houses_size, .ref q_town_houses_cells, .ref q_town_houses_froms, .ref q_town_houses_tos, .ref q_town_houses_rings, .ref q_town_houses_pranks])), (q_town_houses_cells, .inl (g 0, 10, .inl a_town_houses_cells)), (q_town_houses_froms, .inl (g 0, 10, .inl a_town_houses_froms)), (q_town_houses_tos, .inl (g 0, 10, .inl a_town_houses_tos)), (q_town_houses_rings, .inl (g 0, 10, .inl a_town_houses_rings)), (q_town_houses_pranks, .inl (g 0, 10, .inl a_town_houses_pranks)), (q_town_halls, .inr (2, [.int f_town_halls_size, .ref q_town_halls_rows, .ref q_town_halls_firsts, .ref q_town_halls_lasts])), (q_town_halls_rows, .inl (g 0, 4, .inl a_town_halls_rows)), (q_town_halls_firsts, .inl (g 0, 4, .inl a_town_halls_firsts)), (q_town_halls_lasts, .inl (g 0, 4, .inl a_town_halls_lasts)), (q_town_posts, .inr (6, [.int f_town_posts_size, .ref q_town_posts_cells, .ref q_town_posts_tolds])), (q_town_posts_cells, .inl (g 0, 4, .inl a_town_posts_cells)), (q_town_posts_tolds, .inl (g 0, 4, .inl a_town_posts_tolds)), (q_town_blocks, .inl (g 0, 64, .inl a_town_blocks)), (q_town_kinds, .inl (g 0, 4, .inl a_town_kinds))]) (wr := [(q_this, .inr (11, [.ref q_town, .ref q_ahead, .ref q_kept, .int f_isKept, .ref q_past, .ref q_reason, .ref q_orders, .ref q_ways, .ref q_sheet])), (q_town_houses, .inr (3, [.int f_town_houses_size, .ref q_town_houses_cells, .ref q_town_houses_froms, .ref q_town_houses_tos, .ref q_town_houses_rings, .ref q_town_houses_pranks])), (q_town_houses_cells, .inl (g 0, 10, .inl a_town_houses_cells)), (q_town_houses_froms, .inl (g 0, 10, .inl a_town_houses_froms)), (q_town_houses_tos, .inl (g 0, 10, .inl a_town_houses_tos)), (q_town_houses_rings, .inl (g 0, 10, .inl a_town_houses_rings)), (q_town_houses_pranks, .inl (g 0, 10, .inl a_town_houses_pranks)), (q_town_halls, .inr (2, [.int f_town_halls_size, .ref q_town_halls_rows, .ref q_town_halls_firsts, .ref q_town_halls_lasts])), (q_town_halls_rows, .inl (g 0, 4, .inl a_town_halls_rows)), (q_town_halls_firsts, .inl (g 0, 4, .inl a_town_halls_firsts)), (q_town_halls_lasts, .inl (g 0, 4, .inl a_town_halls_lasts)), (q_town_posts, .inr (6, [.int f_town_posts_size, .ref q_town_posts_cells, .ref q_town_posts_tolds])), (q_town_posts_cells, .inl (g 0, 4, .inl a_town_posts_cells)), (q_town_posts_tolds, .inl (g 0, 4, .inl a_town_posts_tolds)), (q_town_blocks, .inl (g 0, 64, .inl a_town_blocks)), (q_town_kinds, .inl (g 0, 4, .inl a_town_kinds))]) (as := [q_this, q_town, q_town_houses, q_town_houses_cells, q_town_houses_froms, q_town_houses_tos, q_town_houses_rings, q_town_houses_pranks, q_town_halls, q_town_halls_rows, q_town_halls_firsts, q_town_halls_lasts, q_town_posts, q_town_posts_cells, q_town_posts_tolds, q_town_blocks, q_town_kinds]) X k_X9_letPass (c_X9_letPass l D g q_town q_town_houses q_town_halls q_town_posts q_town_blocks q_town_kinds p2 f_town_hour f_town_day f_town_prankHouse f_town_bells f_town_echoes f_town_bellPranks o19 e20) ql_X11_X9_letPass dX11_doOrder_138 [1] [0, 2, 3, 4, 5, 6, 7, 8, 9, 10, 11, 12, 13, 14, 15, 16] ⟨rfl, rfl, rfl, rfl, rfl, rfl, rfl, rfl⟩ rfl rfl rfl rfl rfl ⟨Nat.le_of_ble_eq_true rfl, Nat.le_of_ble_eq_true rfl, rfl, rfl, Nat.le_of_ble_eq_true rfl, Nat.le_of_ble_eq_true rfl⟩ (Nat.le_of_ble_eq_true rfl) ?_
  refine z_pop X dX11_doOrder_141 rfl ?_
  cases h
  exact z_vretW X hQ hA hr dX11_doOrder_142

def F_X6_isGiven (f_number : Int32) : Option (Int32) :=
  brn (f_number = ((-1) : Int32)) (some ((0 : Int32))) (some ((1 : Int32)))
theorem dX6_isGiven_0 : decode cX6_isGiven 0 = .ok (.aload_n 0, 1) := by decide +kernel
theorem dX6_isGiven_1 : decode cX6_isGiven 1 = .ok (.getfield 9, 3) := by decide +kernel
theorem dX6_isGiven_4 : decode cX6_isGiven 4 = .ok (.iconst (-1), 1) := by decide +kernel
theorem dX6_isGiven_5 : decode cX6_isGiven 5 = .ok (.if_icmp .eq 7, 3) := by decide +kernel
theorem dX6_isGiven_8 : decode cX6_isGiven 8 = .ok (.iconst 1, 1) := by decide +kernel
theorem dX6_isGiven_9 : decode cX6_isGiven 9 = .ok (.goto 4, 3) := by decide +kernel
theorem dX6_isGiven_12 : decode cX6_isGiven 12 = .ok (.iconst 0, 1) := by decide +kernel
theorem dX6_isGiven_13 : decode cX6_isGiven 13 = .ok (.ireturn, 1) := by decide +kernel
theorem k_X6_isGiven : cardV yX6_isGiven (Cond.code yX6_isGiven cX6_isGiven 1 (some .boolean)) 0 := ⟨⟨qi_X6_isGiven, qv_X6_isGiven⟩, qc_X6_isGiven, qn_X6, by decide +kernel, by decide +kernel, by decide +kernel⟩
set_option maxHeartbeats 4000000 in
set_option maxRecDepth 100000 in
theorem c_X6_isGiven (l : Launch) (D : va_G) (g : Nat → ClassId) (q_this : Nat) (f_number : Int32) (f_detail : Int32) (o : Int32) (h : F_X6_isGiven f_number = some o) : MR l yX6_isGiven (Cond.code yX6_isGiven cX6_isGiven 1 (some .boolean)) { frames := 0, cells := 0, slots := 0, locals := 0 } D g [.ref q_this] [(q_this, .inr (7, [.int f_number, .int f_detail]))] (some (.int o)) := by
  refine z_rd_start (by decide) (Nat.le_of_ble_eq_true rfl) ?_
  intro p e s m args below meth c Q X hr hQ
  refine z_lv (lv' := [(0, .ref q_this)]) rfl ?_
  refine z_aload_n X 0 dX6_isGiven_0 rfl rfl ?_
  refine z_get (q0 := 0) (k := 0) (ci := 7) X IR_P iw_X6 rfl qf_X6_X6_number (by decide) dX6_isGiven_1 rfl rfl ?_
  refine z_iconst X ((-1) : Int32) dX6_isGiven_4 (by decide) ?_
  refine z_icmp_eq X 12 dX6_isGiven_5 (by decide) h (fun _ h => ?_) (fun _ h => ?_)
  · refine z_iconst X (0 : Int32) dX6_isGiven_12 (by decide) ?_
    exact z_zretR X hQ hr dX6_isGiven_13 rfl h
  · refine z_iconst X (1 : Int32) dX6_isGiven_8 (by decide) ?_
    refine z_goto X 13 dX6_isGiven_9 (by decide) ?_
    exact z_zretR X hQ hr dX6_isGiven_13 rfl h

def F_X3_size (f_size : Int32) : Option (Int32) :=
  some (f_size)
theorem dX3_size_0 : decode cX3_size 0 = .ok (.aload_n 0, 1) := by decide +kernel
theorem dX3_size_1 : decode cX3_size 1 = .ok (.getfield 22, 3) := by decide +kernel
theorem dX3_size_4 : decode cX3_size 4 = .ok (.ireturn, 1) := by decide +kernel
theorem k_X3_size : cardV yX3_size (Cond.code yX3_size cX3_size 1 (some .int)) 0 := ⟨⟨qi_X3_size, qv_X3_size⟩, qc_X3_size, qn_X3, by decide +kernel, by decide +kernel, by decide +kernel⟩
set_option maxHeartbeats 4000000 in
set_option maxRecDepth 100000 in
theorem c_X3_size (l : Launch) (D : va_G) (g : Nat → ClassId) (q_this q_signs q_kinds q_numbers : Nat) (f_size : Int32) (f_count : Int32) (f_place : Int32) (f_errorPlace : Int32) (o : Int32) (h : F_X3_size f_size = some o) : MR l yX3_size (Cond.code yX3_size cX3_size 1 (some .int)) { frames := 0, cells := 0, slots := 0, locals := 0 } D g [.ref q_this] [(q_this, .inr (4, [.ref q_signs, .ref q_kinds, .ref q_numbers, .int f_size, .int f_count, .int f_place, .int f_errorPlace]))] (some (.int o)) := by
  refine z_rd_start (by decide) (Nat.le_of_ble_eq_true rfl) ?_
  intro p e s m args below meth c Q X hr hQ
  refine z_lv (lv' := [(0, .ref q_this)]) rfl ?_
  refine z_aload_n X 0 dX3_size_0 rfl rfl ?_
  refine z_get (q0 := 0) (k := 3) (ci := 4) X IR_P iw_X3 rfl qf_X3_X3_size (by decide) dX3_size_1 rfl rfl ?_
  exact z_iretR X hQ hr dX3_size_4 h

def F_X4_size (f_size : Int32) : Option (Int32) :=
  some (f_size)
theorem dX4_size_0 : decode cX4_size 0 = .ok (.aload_n 0, 1) := by decide +kernel
theorem dX4_size_1 : decode cX4_size 1 = .ok (.getfield 17, 3) := by decide +kernel
theorem dX4_size_4 : decode cX4_size 4 = .ok (.ireturn, 1) := by decide +kernel
theorem k_X4_size : cardV yX4_size (Cond.code yX4_size cX4_size 1 (some .int)) 0 := ⟨⟨qi_X4_size, qv_X4_size⟩, qc_X4_size, qn_X4, by decide +kernel, by decide +kernel, by decide +kernel⟩
set_option maxHeartbeats 4000000 in
set_option maxRecDepth 100000 in
theorem c_X4_size (l : Launch) (D : va_G) (g : Nat → ClassId) (q_this q_towns : Nat) (f_size : Int32) (f_next : Int32) (o : Int32) (h : F_X4_size f_size = some o) : MR l yX4_size (Cond.code yX4_size cX4_size 1 (some .int)) { frames := 0, cells := 0, slots := 0, locals := 0 } D g [.ref q_this] [(q_this, .inr (5, [.ref q_towns, .int f_size, .int f_next]))] (some (.int o)) := by
  refine z_rd_start (by decide) (Nat.le_of_ble_eq_true rfl) ?_
  intro p e s m args below meth c Q X hr hQ
  refine z_lv (lv' := [(0, .ref q_this)]) rfl ?_
  refine z_aload_n X 0 dX4_size_0 rfl rfl ?_
  refine z_get (q0 := 0) (k := 1) (ci := 5) X IR_P iw_X4 rfl qf_X4_X4_size (by decide) dX4_size_1 rfl rfl ?_
  exact z_iretR X hQ hr dX4_size_4 h

def F_X1_size (f_size : Int32) : Option (Int32) :=
  some (f_size)
theorem dX1_size_0 : decode cX1_size 0 = .ok (.aload_n 0, 1) := by decide +kernel
theorem dX1_size_1 : decode cX1_size 1 = .ok (.getfield 21, 3) := by decide +kernel
theorem dX1_size_4 : decode cX1_size 4 = .ok (.ireturn, 1) := by decide +kernel
theorem k_X1_size : cardV yX1_size (Cond.code yX1_size cX1_size 1 (some .int)) 0 := ⟨⟨qi_X1_size, qv_X1_size⟩, qc_X1_size, qn_X1, by decide +kernel, by decide +kernel, by decide +kernel⟩
set_option maxHeartbeats 4000000 in
set_option maxRecDepth 100000 in
theorem c_X1_size (l : Launch) (D : va_G) (g : Nat → ClassId) (q_this q_rows q_firsts q_lasts : Nat) (f_size : Int32) (o : Int32) (h : F_X1_size f_size = some o) : MR l yX1_size (Cond.code yX1_size cX1_size 1 (some .int)) { frames := 0, cells := 0, slots := 0, locals := 0 } D g [.ref q_this] [(q_this, .inr (2, [.int f_size, .ref q_rows, .ref q_firsts, .ref q_lasts]))] (some (.int o)) := by
  refine z_rd_start (by decide) (Nat.le_of_ble_eq_true rfl) ?_
  intro p e s m args below meth c Q X hr hQ
  refine z_lv (lv' := [(0, .ref q_this)]) rfl ?_
  refine z_aload_n X 0 dX1_size_0 rfl rfl ?_
  refine z_get (q0 := 0) (k := 0) (ci := 2) X IR_P iw_X1 rfl qf_X1_X1_size (by decide) dX1_size_1 rfl rfl ?_
  exact z_iretR X hQ hr dX1_size_4 h

def F_X5_size (f_size : Int32) : Option (Int32) :=
  some (f_size)
theorem dX5_size_0 : decode cX5_size 0 = .ok (.aload_n 0, 1) := by decide +kernel
theorem dX5_size_1 : decode cX5_size 1 = .ok (.getfield 18, 3) := by decide +kernel
theorem dX5_size_4 : decode cX5_size 4 = .ok (.ireturn, 1) := by decide +kernel
theorem k_X5_size : cardV yX5_size (Cond.code yX5_size cX5_size 1 (some .int)) 0 := ⟨⟨qi_X5_size, qv_X5_size⟩, qc_X5_size, qn_X5, by decide +kernel, by decide +kernel, by decide +kernel⟩
set_option maxHeartbeats 4000000 in
set_option maxRecDepth 100000 in
theorem c_X5_size (l : Launch) (D : va_G) (g : Nat → ClassId) (q_this q_cells q_tolds : Nat) (f_size : Int32) (o : Int32) (h : F_X5_size f_size = some o) : MR l yX5_size (Cond.code yX5_size cX5_size 1 (some .int)) { frames := 0, cells := 0, slots := 0, locals := 0 } D g [.ref q_this] [(q_this, .inr (6, [.int f_size, .ref q_cells, .ref q_tolds]))] (some (.int o)) := by
  refine z_rd_start (by decide) (Nat.le_of_ble_eq_true rfl) ?_
  intro p e s m args below meth c Q X hr hQ
  refine z_lv (lv' := [(0, .ref q_this)]) rfl ?_
  refine z_aload_n X 0 dX5_size_0 rfl rfl ?_
  refine z_get (q0 := 0) (k := 0) (ci := 6) X IR_P iw_X5 rfl qf_X5_X5_size (by decide) dX5_size_1 rfl rfl ?_
  exact z_iretR X hQ hr dX5_size_4 h

def L_X5_countTellers_4 (f_size : Int32) (a_tolds : Nat → Int32) : Nat → Int32 → Int32 → Option (Int32)
  | 0, _, _ => none
  | _n + 1, x1, x2 =>
    brn (f_size ≤ x2) (some (x1)) (bnd (F_X5_toldAt x2 a_tolds) (fun o1 => brn (o1 = ((-1) : Int32)) (L_X5_countTellers_4 f_size a_tolds _n x1 (x2 + 1)) (L_X5_countTellers_4 f_size a_tolds _n (x1 + 1) (x2 + 1))))

def F_X5_countTellers (f_size : Int32) (a_tolds : Nat → Int32) : Option (Int32) :=
  L_X5_countTellers_4 f_size a_tolds 100 (0 : Int32) (0 : Int32)
theorem dX5_countTellers_0 : decode cX5_countTellers 0 = .ok (.iconst 0, 1) := by decide +kernel
theorem dX5_countTellers_1 : decode cX5_countTellers 1 = .ok (.istore_n 1, 1) := by decide +kernel
theorem dX5_countTellers_2 : decode cX5_countTellers 2 = .ok (.iconst 0, 1) := by decide +kernel
theorem dX5_countTellers_3 : decode cX5_countTellers 3 = .ok (.istore_n 2, 1) := by decide +kernel
theorem dX5_countTellers_4 : decode cX5_countTellers 4 = .ok (.iload_n 2, 1) := by decide +kernel
theorem dX5_countTellers_5 : decode cX5_countTellers 5 = .ok (.aload_n 0, 1) := by decide +kernel
theorem dX5_countTellers_6 : decode cX5_countTellers 6 = .ok (.getfield 18, 3) := by decide +kernel
theorem dX5_countTellers_9 : decode cX5_countTellers 9 = .ok (.if_icmp .ge 21, 3) := by decide +kernel
theorem dX5_countTellers_12 : decode cX5_countTellers 12 = .ok (.aload_n 0, 1) := by decide +kernel
theorem dX5_countTellers_13 : decode cX5_countTellers 13 = .ok (.iload_n 2, 1) := by decide +kernel
theorem dX5_countTellers_14 : decode cX5_countTellers 14 = .ok (.invokevirtual 40, 3) := by decide +kernel
theorem dX5_countTellers_17 : decode cX5_countTellers 17 = .ok (.iconst (-1), 1) := by decide +kernel
theorem dX5_countTellers_18 : decode cX5_countTellers 18 = .ok (.if_icmp .eq 6, 3) := by decide +kernel
theorem dX5_countTellers_21 : decode cX5_countTellers 21 = .ok (.iinc 1 1, 3) := by decide +kernel
theorem dX5_countTellers_24 : decode cX5_countTellers 24 = .ok (.iinc 2 1, 3) := by decide +kernel
theorem dX5_countTellers_27 : decode cX5_countTellers 27 = .ok (.goto (-23), 3) := by decide +kernel
theorem dX5_countTellers_30 : decode cX5_countTellers 30 = .ok (.iload_n 1, 1) := by decide +kernel
theorem dX5_countTellers_31 : decode cX5_countTellers 31 = .ok (.ireturn, 1) := by decide +kernel
theorem k_X5_countTellers : cardV yX5_countTellers (Cond.code yX5_countTellers cX5_countTellers 3 (some .int)) 0 := ⟨⟨qi_X5_countTellers, qv_X5_countTellers⟩, qc_X5_countTellers, qn_X5, by decide +kernel, by decide +kernel, by decide +kernel⟩
set_option maxHeartbeats 4000000 in
set_option maxRecDepth 100000 in
theorem c_X5_countTellers (l : Launch) (D : va_G) (g : Nat → ClassId) (q_this q_cells q_tolds : Nat) (f_size : Int32) (a_tolds : Nat → Int32) (o : Int32) (h : F_X5_countTellers f_size a_tolds = some o) : MR l yX5_countTellers (Cond.code yX5_countTellers cX5_countTellers 3 (some .int)) { frames := 2, cells := 0, slots := 0, locals := 42 } D g [.ref q_this] [(q_this, .inr (6, [.int f_size, .ref q_cells, .ref q_tolds])), (q_tolds, .inl (g 0, 4, .inl a_tolds))] (some (.int o)) := by
  refine z_rd_start (by decide) (Nat.le_of_ble_eq_true rfl) ?_
  intro p e s m args below meth c Q X hr hQ
  refine z_lv (lv' := [(0, .ref q_this)]) rfl ?_
  have H4 : ∀ (n : Nat) (x1 : Int32) (x2 : Int32), L_X5_countTellers_4 f_size a_tolds  n x1 x2 = some o → Z p l e { frames := 2, cells := 0, slots := 0, locals := 42 } s m args below meth c Q 3 0 0 (IR D [(q_this, .inr (6, [.int f_size, .ref q_cells, .ref q_tolds])), (q_tolds, .inl (g 0, 4, .inl a_tolds))] s) 4 [(0, .ref q_this), (1, .int x1), (2, .int x2)] [] := by
    intro n
    induction n with
    | zero => intro x1 x2 h; cases h
    | succ n4 ih4 =>
      intro x1 x2 h
      refine z_iload_n X 2 dX5_countTellers_4 rfl rfl ?_
      refine z_aload_n X 0 dX5_countTellers_5 rfl rfl ?_
      refine z_get (q0 := 0) (k := 0) (ci := 6) X IR_P iw_X5 rfl qf_X5_X5_size (by decide) dX5_countTellers_6 rfl rfl ?_
      refine z_icmp_ge X 30 dX5_countTellers_9 (by decide) h (fun _ h => ?_) (fun _ h => ?_)
      · refine z_iload_n X 1 dX5_countTellers_30 rfl rfl ?_
        exact z_iretR X hQ hr dX5_countTellers_31 h
      · refine z_aload_n X 0 dX5_countTellers_12 rfl rfl ?_
        refine z_iload_n X 2 dX5_countTellers_13 rfl rfl ?_
        obtain ⟨o1, e2, h⟩ := bnd_p h
        refine z_rdV (rest := []) (q0 := 0) (ci := 6) X IR_P k_X5_toldAt (c_X5_toldAt l D g q_this q_cells q_tolds x2 f_size a_tolds o1 e2) ql_X5_X5_toldAt dX5_countTellers_14 [0, 1] rfl rfl rfl rfl rfl rfl ⟨Nat.le_of_ble_eq_true rfl, Nat.le_of_ble_eq_true rfl, rfl, rfl, Nat.le_of_ble_eq_true rfl, Nat.le_of_ble_eq_true rfl⟩ (Nat.le_of_ble_eq_true rfl) ?_
        refine z_iconst X ((-1) : Int32) dX5_countTellers_17 (by decide) ?_
        refine z_icmp_eq X 24 dX5_countTellers_18 (by decide) h (fun _ h => ?_) (fun _ h => ?_)
        · refine z_iinc X 2 [(2, .int (x2 + 1)), (0, .ref q_this), (1, .int x1)] dX5_countTellers_24 rfl rfl (by decide) rfl ?_
          refine z_goto X 4 dX5_countTellers_27 (by decide) ?_
          refine z_sub (lv' := [(0, .ref q_this), (1, .int x1), (2, .int (x2 + 1))]) [1, 2, 0] rfl ?_
          exact ih4 x1 (x2 + 1) h
        · refine z_iinc X 1 [(1, .int (x1 + 1)), (0, .ref q_this), (2, .int x2)] dX5_countTellers_21 rfl rfl (by decide) rfl ?_
          refine z_iinc X 2 [(2, .int (x2 + 1)), (1, .int (x1 + 1)), (0, .ref q_this)] dX5_countTellers_24 rfl rfl (by decide) rfl ?_
          refine z_goto X 4 dX5_countTellers_27 (by decide) ?_
          refine z_sub (lv' := [(0, .ref q_this), (1, .int (x1 + 1)), (2, .int (x2 + 1))]) [2, 1, 0] rfl ?_
          exact ih4 (x1 + 1) (x2 + 1) h
  refine z_iconst X (0 : Int32) dX5_countTellers_0 (by decide) ?_
  refine z_istore_n X [(1, .int (0 : Int32)), (0, .ref q_this)] dX5_countTellers_1 rfl (by decide) rfl ?_
  refine z_iconst X (0 : Int32) dX5_countTellers_2 (by decide) ?_
  refine z_istore_n X [(2, .int (0 : Int32)), (1, .int (0 : Int32)), (0, .ref q_this)] dX5_countTellers_3 rfl (by decide) rfl ?_
  refine z_sub (lv' := [(0, .ref q_this), (1, .int (0 : Int32)), (2, .int (0 : Int32))]) [2, 1, 0] rfl ?_
  exact H4 100 (0 : Int32) (0 : Int32) h

def F_X9_countOf (p1 : Int32) (f_hour : Int32) (f_day : Int32) (f_prankHouse : Int32) (f_bells : Int32) (f_echoes : Int32) (f_bellPranks : Int32) (f_houses_size : Int32) (f_halls_size : Int32) (f_posts_size : Int32) (a_posts_tolds : Nat → Int32) (a_blocks : Nat → Int32) : Option (Int32) :=
  brn (p1 = (0 : Int32)) (some (f_hour)) (brn (p1 = (1 : Int32)) (some (f_day)) (brn (p1 = (2 : Int32)) (bnd (F_X2_size f_houses_size) (fun o4 => some (o4))) (brn (p1 = (3 : Int32)) (bnd (F_X1_size f_halls_size) (fun o7 => some (o7))) (brn (p1 = (4 : Int32)) (bnd (F_X5_size f_posts_size) (fun o10 => some (o10))) (brn (p1 = (5 : Int32)) (bnd (F_X5_countTellers f_posts_size a_posts_tolds) (fun o13 => some (o13))) (brn (p1 = (6 : Int32)) (bnd (F_X9_countBlocks a_blocks) (fun o16 => some (o16))) (brn (p1 = (7 : Int32)) (some (f_bells)) (brn (p1 = (8 : Int32)) (some (f_echoes)) (brn (p1 = (9 : Int32)) (some (f_bellPranks)) (some (f_prankHouse)))))))))))
theorem dX9_countOf_0 : decode cX9_countOf 0 = .ok (.iload_n 1, 1) := by decide +kernel
theorem dX9_countOf_1 : decode cX9_countOf 1 = .ok (.tableswitch 117 0 9 #[55, 60, 65, 73, 81, 89, 97, 102, 107, 112], 55) := by decide +kernel
theorem dX9_countOf_56 : decode cX9_countOf 56 = .ok (.aload_n 0, 1) := by decide +kernel
theorem dX9_countOf_57 : decode cX9_countOf 57 = .ok (.getfield 39, 3) := by decide +kernel
theorem dX9_countOf_60 : decode cX9_countOf 60 = .ok (.ireturn, 1) := by decide +kernel
theorem dX9_countOf_61 : decode cX9_countOf 61 = .ok (.aload_n 0, 1) := by decide +kernel
theorem dX9_countOf_62 : decode cX9_countOf 62 = .ok (.getfield 43, 3) := by decide +kernel
theorem dX9_countOf_65 : decode cX9_countOf 65 = .ok (.ireturn, 1) := by decide +kernel
theorem dX9_countOf_66 : decode cX9_countOf 66 = .ok (.aload_n 0, 1) := by decide +kernel
theorem dX9_countOf_67 : decode cX9_countOf 67 = .ok (.getfield 12, 3) := by decide +kernel
theorem dX9_countOf_70 : decode cX9_countOf 70 = .ok (.invokevirtual 164, 3) := by decide +kernel
theorem dX9_countOf_73 : decode cX9_countOf 73 = .ok (.ireturn, 1) := by decide +kernel
theorem dX9_countOf_74 : decode cX9_countOf 74 = .ok (.aload_n 0, 1) := by decide +kernel
theorem dX9_countOf_75 : decode cX9_countOf 75 = .ok (.getfield 21, 3) := by decide +kernel
theorem dX9_countOf_78 : decode cX9_countOf 78 = .ok (.invokevirtual 214, 3) := by decide +kernel
theorem dX9_countOf_81 : decode cX9_countOf 81 = .ok (.ireturn, 1) := by decide +kernel
theorem dX9_countOf_82 : decode cX9_countOf 82 = .ok (.aload_n 0, 1) := by decide +kernel
theorem dX9_countOf_83 : decode cX9_countOf 83 = .ok (.getfield 28, 3) := by decide +kernel
theorem dX9_countOf_86 : decode cX9_countOf 86 = .ok (.invokevirtual 215, 3) := by decide +kernel
theorem dX9_countOf_89 : decode cX9_countOf 89 = .ok (.ireturn, 1) := by decide +kernel
theorem dX9_countOf_90 : decode cX9_countOf 90 = .ok (.aload_n 0, 1) := by decide +kernel
theorem dX9_countOf_91 : decode cX9_countOf 91 = .ok (.getfield 28, 3) := by decide +kernel
theorem dX9_countOf_94 : decode cX9_countOf 94 = .ok (.invokevirtual 216, 3) := by decide +kernel
theorem dX9_countOf_97 : decode cX9_countOf 97 = .ok (.ireturn, 1) := by decide +kernel
theorem dX9_countOf_98 : decode cX9_countOf 98 = .ok (.aload_n 0, 1) := by decide +kernel
theorem dX9_countOf_99 : decode cX9_countOf 99 = .ok (.invokevirtual 198, 3) := by decide +kernel
theorem dX9_countOf_102 : decode cX9_countOf 102 = .ok (.ireturn, 1) := by decide +kernel
theorem dX9_countOf_103 : decode cX9_countOf 103 = .ok (.aload_n 0, 1) := by decide +kernel
theorem dX9_countOf_104 : decode cX9_countOf 104 = .ok (.getfield 49, 3) := by decide +kernel
theorem dX9_countOf_107 : decode cX9_countOf 107 = .ok (.ireturn, 1) := by decide +kernel
theorem dX9_countOf_108 : decode cX9_countOf 108 = .ok (.aload_n 0, 1) := by decide +kernel
theorem dX9_countOf_109 : decode cX9_countOf 109 = .ok (.getfield 52, 3) := by decide +kernel
theorem dX9_countOf_112 : decode cX9_countOf 112 = .ok (.ireturn, 1) := by decide +kernel
theorem dX9_countOf_113 : decode cX9_countOf 113 = .ok (.aload_n 0, 1) := by decide +kernel
theorem dX9_countOf_114 : decode cX9_countOf 114 = .ok (.getfield 55, 3) := by decide +kernel
theorem dX9_countOf_117 : decode cX9_countOf 117 = .ok (.ireturn, 1) := by decide +kernel
theorem dX9_countOf_118 : decode cX9_countOf 118 = .ok (.aload_n 0, 1) := by decide +kernel
theorem dX9_countOf_119 : decode cX9_countOf 119 = .ok (.getfield 46, 3) := by decide +kernel
theorem dX9_countOf_122 : decode cX9_countOf 122 = .ok (.ireturn, 1) := by decide +kernel
theorem k_X9_countOf : cardV yX9_countOf (Cond.code yX9_countOf cX9_countOf 2 (some .int)) 1 := ⟨⟨qi_X9_countOf, qv_X9_countOf⟩, qc_X9_countOf, qn_X9, by decide +kernel, by decide +kernel, by decide +kernel⟩
set_option maxHeartbeats 4000000 in
set_option maxRecDepth 100000 in
theorem c_X9_countOf (l : Launch) (D : va_G) (g : Nat → ClassId) (q_this q_houses q_halls q_posts q_blocks q_kinds q_houses_cells q_houses_froms q_houses_tos q_houses_rings q_houses_pranks q_halls_rows q_halls_firsts q_halls_lasts q_posts_cells q_posts_tolds : Nat) (p1 : Int32) (f_hour : Int32) (f_day : Int32) (f_prankHouse : Int32) (f_bells : Int32) (f_echoes : Int32) (f_bellPranks : Int32) (f_houses_size : Int32) (f_halls_size : Int32) (f_posts_size : Int32) (a_posts_tolds : Nat → Int32) (a_blocks : Nat → Int32) (o : Int32) (h : F_X9_countOf p1 f_hour f_day f_prankHouse f_bells f_echoes f_bellPranks f_houses_size f_halls_size f_posts_size a_posts_tolds a_blocks = some o) : MR l yX9_countOf (Cond.code yX9_countOf cX9_countOf 2 (some .int)) { frames := 3, cells := 0, slots := 0, locals := 64 } D g [.ref q_this, .int p1] [(q_this, .inr (9, [.ref q_houses, .ref q_halls, .ref q_posts, .ref q_blocks, .ref q_kinds, .int f_hour, .int f_day, .int f_prankHouse, .int f_bells, .int f_echoes, .int f_bellPranks])), (q_houses, .inr (3, [.int f_houses_size, .ref q_houses_cells, .ref q_houses_froms, .ref q_houses_tos, .ref q_houses_rings, .ref q_houses_pranks])), (q_halls, .inr (2, [.int f_halls_size, .ref q_halls_rows, .ref q_halls_firsts, .ref q_halls_lasts])), (q_posts, .inr (6, [.int f_posts_size, .ref q_posts_cells, .ref q_posts_tolds])), (q_posts_tolds, .inl (g 0, 4, .inl a_posts_tolds)), (q_blocks, .inl (g 0, 64, .inl a_blocks))] (some (.int o)) := by
  refine z_rd_start (by decide) (Nat.le_of_ble_eq_true rfl) ?_
  intro p e s m args below meth c Q X hr hQ
  refine z_lv (lv' := [(0, .ref q_this), (1, .int p1)]) rfl ?_
  refine z_iload_n X 1 dX9_countOf_0 rfl rfl ?_
  by_cases n1 : p1 = (0 : Int32)
  · have h := brn_t h n1
    refine z_tin (off := 55) 56 X dX9_countOf_1 (sw_eq (k := 0) n1 (by decide)) (by decide) (by decide) (by decide) (by decide) ?_
    refine z_aload_n X 0 dX9_countOf_56 rfl rfl ?_
    refine z_get (q0 := 0) (k := 5) (ci := 9) X IR_P iw_X9 rfl qf_X9_X9_hour (by decide) dX9_countOf_57 rfl rfl ?_
    exact z_iretR X hQ hr dX9_countOf_60 h
  have h := brn_f h n1
  by_cases n2 : p1 = (1 : Int32)
  · have h := brn_t h n2
    refine z_tin (off := 60) 61 X dX9_countOf_1 (sw_eq (k := 1) n2 (by decide)) (by decide) (by decide) (by decide) (by decide) ?_
    refine z_aload_n X 0 dX9_countOf_61 rfl rfl ?_
    refine z_get (q0 := 0) (k := 6) (ci := 9) X IR_P iw_X9 rfl qf_X9_X9_day (by decide) dX9_countOf_62 rfl rfl ?_
    exact z_iretR X hQ hr dX9_countOf_65 h
  have h := brn_f h n2
  by_cases n3 : p1 = (2 : Int32)
  · have h := brn_t h n3
    refine z_tin (off := 65) 66 X dX9_countOf_1 (sw_eq (k := 2) n3 (by decide)) (by decide) (by decide) (by decide) (by decide) ?_
    refine z_aload_n X 0 dX9_countOf_66 rfl rfl ?_
    refine z_get (q0 := 0) (k := 0) (ci := 9) X IR_P iw_X9 rfl qf_X9_X9_houses (by decide) dX9_countOf_67 rfl rfl ?_
    obtain ⟨o4, e5, h⟩ := bnd_p h
    refine z_rdV (rest := []) (q0 := 1) (ci := 3) X IR_P k_X2_size (c_X2_size l D g q_houses q_houses_cells q_houses_froms q_houses_tos q_houses_rings q_houses_pranks f_houses_size o4 e5) ql_X9_X2_size dX9_countOf_70 [1] rfl rfl rfl rfl rfl rfl ⟨Nat.le_of_ble_eq_true rfl, Nat.le_of_ble_eq_true rfl, rfl, rfl, Nat.le_of_ble_eq_true rfl, Nat.le_of_ble_eq_true rfl⟩ (Nat.le_of_ble_eq_true rfl) ?_
    exact z_iretR X hQ hr dX9_countOf_73 h
  have h := brn_f h n3
  by_cases n6 : p1 = (3 : Int32)
  · have h := brn_t h n6
    refine z_tin (off := 73) 74 X dX9_countOf_1 (sw_eq (k := 3) n6 (by decide)) (by decide) (by decide) (by decide) (by decide) ?_
    refine z_aload_n X 0 dX9_countOf_74 rfl rfl ?_
    refine z_get (q0 := 0) (k := 1) (ci := 9) X IR_P iw_X9 rfl qf_X9_X9_halls (by decide) dX9_countOf_75 rfl rfl ?_
    obtain ⟨o7, e8, h⟩ := bnd_p h
    refine z_rdV (rest := []) (q0 := 2) (ci := 2) X IR_P k_X1_size (c_X1_size l D g q_halls q_halls_rows q_halls_firsts q_halls_lasts f_halls_size o7 e8) ql_X9_X1_size dX9_countOf_78 [2] rfl rfl rfl rfl rfl rfl ⟨Nat.le_of_ble_eq_true rfl, Nat.le_of_ble_eq_true rfl, rfl, rfl, Nat.le_of_ble_eq_true rfl, Nat.le_of_ble_eq_true rfl⟩ (Nat.le_of_ble_eq_true rfl) ?_
    exact z_iretR X hQ hr dX9_countOf_81 h
  have h := brn_f h n6
  by_cases n9 : p1 = (4 : Int32)
  · have h := brn_t h n9
    refine z_tin (off := 81) 82 X dX9_countOf_1 (sw_eq (k := 4) n9 (by decide)) (by decide) (by decide) (by decide) (by decide) ?_
    refine z_aload_n X 0 dX9_countOf_82 rfl rfl ?_
    refine z_get (q0 := 0) (k := 2) (ci := 9) X IR_P iw_X9 rfl qf_X9_X9_posts (by decide) dX9_countOf_83 rfl rfl ?_
    obtain ⟨o10, e11, h⟩ := bnd_p h
    refine z_rdV (rest := []) (q0 := 3) (ci := 6) X IR_P k_X5_size (c_X5_size l D g q_posts q_posts_cells q_posts_tolds f_posts_size o10 e11) ql_X9_X5_size dX9_countOf_86 [3] rfl rfl rfl rfl rfl rfl ⟨Nat.le_of_ble_eq_true rfl, Nat.le_of_ble_eq_true rfl, rfl, rfl, Nat.le_of_ble_eq_true rfl, Nat.le_of_ble_eq_true rfl⟩ (Nat.le_of_ble_eq_true rfl) ?_
    exact z_iretR X hQ hr dX9_countOf_89 h
  have h := brn_f h n9
  by_cases n12 : p1 = (5 : Int32)
  · have h := brn_t h n12
    refine z_tin (off := 89) 90 X dX9_countOf_1 (sw_eq (k := 5) n12 (by decide)) (by decide) (by decide) (by decide) (by decide) ?_
    refine z_aload_n X 0 dX9_countOf_90 rfl rfl ?_
    refine z_get (q0 := 0) (k := 2) (ci := 9) X IR_P iw_X9 rfl qf_X9_X9_posts (by decide) dX9_countOf_91 rfl rfl ?_
    obtain ⟨o13, e14, h⟩ := bnd_p h
    refine z_rdV (rest := []) (q0 := 3) (ci := 6) X IR_P k_X5_countTellers (c_X5_countTellers l D g q_posts q_posts_cells q_posts_tolds f_posts_size a_posts_tolds o13 e14) ql_X9_X5_countTellers dX9_countOf_94 [3, 4] rfl rfl rfl rfl rfl rfl ⟨Nat.le_of_ble_eq_true rfl, Nat.le_of_ble_eq_true rfl, rfl, rfl, Nat.le_of_ble_eq_true rfl, Nat.le_of_ble_eq_true rfl⟩ (Nat.le_of_ble_eq_true rfl) ?_
    exact z_iretR X hQ hr dX9_countOf_97 h
  have h := brn_f h n12
  by_cases n15 : p1 = (6 : Int32)
  · have h := brn_t h n15
    refine z_tin (off := 97) 98 X dX9_countOf_1 (sw_eq (k := 6) n15 (by decide)) (by decide) (by decide) (by decide) (by decide) ?_
    refine z_aload_n X 0 dX9_countOf_98 rfl rfl ?_
    obtain ⟨o16, e17, h⟩ := bnd_p h
    refine z_rdV (rest := []) (q0 := 0) (ci := 9) X IR_P k_X9_countBlocks (c_X9_countBlocks l D g q_this q_houses q_halls q_posts q_blocks q_kinds f_hour f_day f_prankHouse f_bells f_echoes f_bellPranks a_blocks o16 e17) ql_X9_X9_countBlocks dX9_countOf_99 [0, 5] rfl rfl rfl rfl rfl rfl ⟨Nat.le_of_ble_eq_true rfl, Nat.le_of_ble_eq_true rfl, rfl, rfl, Nat.le_of_ble_eq_true rfl, Nat.le_of_ble_eq_true rfl⟩ (Nat.le_of_ble_eq_true rfl) ?_
    exact z_iretR X hQ hr dX9_countOf_102 h
  have h := brn_f h n15
  by_cases n18 : p1 = (7 : Int32)
  · have h := brn_t h n18
    refine z_tin (off := 102) 103 X dX9_countOf_1 (sw_eq (k := 7) n18 (by decide)) (by decide) (by decide) (by decide) (by decide) ?_
    refine z_aload_n X 0 dX9_countOf_103 rfl rfl ?_
    refine z_get (q0 := 0) (k := 8) (ci := 9) X IR_P iw_X9 rfl qf_X9_X9_bells (by decide) dX9_countOf_104 rfl rfl ?_
    exact z_iretR X hQ hr dX9_countOf_107 h
  have h := brn_f h n18
  by_cases n19 : p1 = (8 : Int32)
  · have h := brn_t h n19
    refine z_tin (off := 107) 108 X dX9_countOf_1 (sw_eq (k := 8) n19 (by decide)) (by decide) (by decide) (by decide) (by decide) ?_
    refine z_aload_n X 0 dX9_countOf_108 rfl rfl ?_
    refine z_get (q0 := 0) (k := 9) (ci := 9) X IR_P iw_X9 rfl qf_X9_X9_echoes (by decide) dX9_countOf_109 rfl rfl ?_
    exact z_iretR X hQ hr dX9_countOf_112 h
  have h := brn_f h n19
  by_cases n20 : p1 = (9 : Int32)
  · have h := brn_t h n20
    refine z_tin (off := 112) 113 X dX9_countOf_1 (sw_eq (k := 9) n20 (by decide)) (by decide) (by decide) (by decide) (by decide) ?_
    refine z_aload_n X 0 dX9_countOf_113 rfl rfl ?_
    refine z_get (q0 := 0) (k := 10) (ci := 9) X IR_P iw_X9 rfl qf_X9_X9_bellPranks (by decide) dX9_countOf_114 rfl rfl ?_
    exact z_iretR X hQ hr dX9_countOf_117 h
  have h := brn_f h n20
  refine z_tdef 118 [0, 1, 2, 3, 4, 5, 6, 7, 8, 9] X dX9_countOf_1 (by decide) (by decide) (List.forall_mem_cons.mpr ⟨sw_ne n1 (by decide), List.forall_mem_cons.mpr ⟨sw_ne n2 (by decide), List.forall_mem_cons.mpr ⟨sw_ne n3 (by decide), List.forall_mem_cons.mpr ⟨sw_ne n6 (by decide), List.forall_mem_cons.mpr ⟨sw_ne n9 (by decide), List.forall_mem_cons.mpr ⟨sw_ne n12 (by decide), List.forall_mem_cons.mpr ⟨sw_ne n15 (by decide), List.forall_mem_cons.mpr ⟨sw_ne n18 (by decide), List.forall_mem_cons.mpr ⟨sw_ne n19 (by decide), List.forall_mem_cons.mpr ⟨sw_ne n20 (by decide), fun _ hk => absurd hk List.not_mem_nil⟩⟩⟩⟩⟩⟩⟩⟩⟩⟩) (by decide) ?_
  refine z_aload_n X 0 dX9_countOf_118 rfl rfl ?_
  refine z_get (q0 := 0) (k := 7) (ci := 9) X IR_P iw_X9 rfl qf_X9_X9_prankHouse (by decide) dX9_countOf_119 rfl rfl ?_
  exact z_iretR X hQ hr dX9_countOf_122 h

def L_X2_areSleepersAlike_2 (f_size : Int32) (a_froms : Nat → Int32) (a_tos : Nat → Int32) : Nat → Int32 → Option (Int32)
  | 0, _ => none
  | _n + 1, x1 =>
    brn ((24 : Int32) ≤ x1) (some ((1 : Int32))) (bnd (F_X2_sleepers x1 f_size a_froms a_tos) (fun o1 => bnd (F_X2_sleepersByTurns x1 f_size a_froms a_tos) (fun o3 => brn (o1 = o3) (L_X2_areSleepersAlike_2 f_size a_froms a_tos _n (x1 + 1)) (some ((0 : Int32))))))

def F_X2_areSleepersAlike (f_size : Int32) (a_froms : Nat → Int32) (a_tos : Nat → Int32) : Option (Int32) :=
  L_X2_areSleepersAlike_2 f_size a_froms a_tos 100 (0 : Int32)
theorem dX2_areSleepersAlike_0 : decode cX2_areSleepersAlike 0 = .ok (.iconst 0, 1) := by decide +kernel
theorem dX2_areSleepersAlike_1 : decode cX2_areSleepersAlike 1 = .ok (.istore_n 1, 1) := by decide +kernel
theorem dX2_areSleepersAlike_2 : decode cX2_areSleepersAlike 2 = .ok (.iload_n 1, 1) := by decide +kernel
theorem dX2_areSleepersAlike_3 : decode cX2_areSleepersAlike 3 = .ok (.bipush 24, 2) := by decide +kernel
theorem dX2_areSleepersAlike_5 : decode cX2_areSleepersAlike 5 = .ok (.if_icmp .ge 24, 3) := by decide +kernel
theorem dX2_areSleepersAlike_8 : decode cX2_areSleepersAlike 8 = .ok (.aload_n 0, 1) := by decide +kernel
theorem dX2_areSleepersAlike_9 : decode cX2_areSleepersAlike 9 = .ok (.iload_n 1, 1) := by decide +kernel
theorem dX2_areSleepersAlike_10 : decode cX2_areSleepersAlike 10 = .ok (.invokevirtual 72, 3) := by decide +kernel
theorem dX2_areSleepersAlike_13 : decode cX2_areSleepersAlike 13 = .ok (.aload_n 0, 1) := by decide +kernel
theorem dX2_areSleepersAlike_14 : decode cX2_areSleepersAlike 14 = .ok (.iload_n 1, 1) := by decide +kernel
theorem dX2_areSleepersAlike_15 : decode cX2_areSleepersAlike 15 = .ok (.invokevirtual 75, 3) := by decide +kernel
theorem dX2_areSleepersAlike_18 : decode cX2_areSleepersAlike 18 = .ok (.if_icmp .eq 5, 3) := by decide +kernel
theorem dX2_areSleepersAlike_21 : decode cX2_areSleepersAlike 21 = .ok (.iconst 0, 1) := by decide +kernel
theorem dX2_areSleepersAlike_22 : decode cX2_areSleepersAlike 22 = .ok (.ireturn, 1) := by decide +kernel
theorem dX2_areSleepersAlike_23 : decode cX2_areSleepersAlike 23 = .ok (.iinc 1 1, 3) := by decide +kernel
theorem dX2_areSleepersAlike_26 : decode cX2_areSleepersAlike 26 = .ok (.goto (-24), 3) := by decide +kernel
theorem dX2_areSleepersAlike_29 : decode cX2_areSleepersAlike 29 = .ok (.iconst 1, 1) := by decide +kernel
theorem dX2_areSleepersAlike_30 : decode cX2_areSleepersAlike 30 = .ok (.ireturn, 1) := by decide +kernel
theorem k_X2_areSleepersAlike : cardV yX2_areSleepersAlike (Cond.code yX2_areSleepersAlike cX2_areSleepersAlike 2 (some .boolean)) 0 := ⟨⟨qi_X2_areSleepersAlike, qv_X2_areSleepersAlike⟩, qc_X2_areSleepersAlike, qn_X2, by decide +kernel, by decide +kernel, by decide +kernel⟩
set_option maxHeartbeats 4000000 in
set_option maxRecDepth 100000 in
theorem c_X2_areSleepersAlike (l : Launch) (D : va_G) (g : Nat → ClassId) (q_this q_cells q_froms q_tos q_rings q_pranks : Nat) (f_size : Int32) (a_froms : Nat → Int32) (a_tos : Nat → Int32) (o : Int32) (h : F_X2_areSleepersAlike f_size a_froms a_tos = some o) : MR l yX2_areSleepersAlike (Cond.code yX2_areSleepersAlike cX2_areSleepersAlike 2 (some .boolean)) { frames := 4, cells := 0, slots := 0, locals := 88 } D g [.ref q_this] [(q_this, .inr (3, [.int f_size, .ref q_cells, .ref q_froms, .ref q_tos, .ref q_rings, .ref q_pranks])), (q_froms, .inl (g 0, 10, .inl a_froms)), (q_tos, .inl (g 0, 10, .inl a_tos))] (some (.int o)) := by
  refine z_rd_start (by decide) (Nat.le_of_ble_eq_true rfl) ?_
  intro p e s m args below meth c Q X hr hQ
  refine z_lv (lv' := [(0, .ref q_this)]) rfl ?_
  have H2 : ∀ (n : Nat) (x1 : Int32), L_X2_areSleepersAlike_2 f_size a_froms a_tos  n x1 = some o → Z p l e { frames := 4, cells := 0, slots := 0, locals := 88 } s m args below meth c Q 2 0 0 (IR D [(q_this, .inr (3, [.int f_size, .ref q_cells, .ref q_froms, .ref q_tos, .ref q_rings, .ref q_pranks])), (q_froms, .inl (g 0, 10, .inl a_froms)), (q_tos, .inl (g 0, 10, .inl a_tos))] s) 2 [(0, .ref q_this), (1, .int x1)] [] := by
    intro n
    induction n with
    | zero => intro x1 h; cases h
    | succ n2 ih2 =>
      intro x1 h
      refine z_iload_n X 1 dX2_areSleepersAlike_2 rfl rfl ?_
      refine z_bipush X (24 : Int32) dX2_areSleepersAlike_3 (by decide) ?_
      refine z_icmp_ge X 29 dX2_areSleepersAlike_5 (by decide) h (fun _ h => ?_) (fun _ h => ?_)
      · refine z_iconst X (1 : Int32) dX2_areSleepersAlike_29 (by decide) ?_
        exact z_zretR X hQ hr dX2_areSleepersAlike_30 rfl h
      · refine z_aload_n X 0 dX2_areSleepersAlike_8 rfl rfl ?_
        refine z_iload_n X 1 dX2_areSleepersAlike_9 rfl rfl ?_
        obtain ⟨o1, e2, h⟩ := bnd_p h
        refine z_rdV (rest := []) (q0 := 0) (ci := 3) X IR_P k_X2_sleepers (c_X2_sleepers l D g q_this q_cells q_froms q_tos q_rings q_pranks x1 f_size a_froms a_tos o1 e2) ql_X2_X2_sleepers dX2_areSleepersAlike_10 [0, 1, 2] rfl rfl rfl rfl rfl rfl ⟨Nat.le_of_ble_eq_true rfl, Nat.le_of_ble_eq_true rfl, rfl, rfl, Nat.le_of_ble_eq_true rfl, Nat.le_of_ble_eq_true rfl⟩ (Nat.le_of_ble_eq_true rfl) ?_
        refine z_aload_n X 0 dX2_areSleepersAlike_13 rfl rfl ?_
        refine z_iload_n X 1 dX2_areSleepersAlike_14 rfl rfl ?_
        obtain ⟨o3, e4, h⟩ := bnd_p h
        refine z_rdV (rest := [.int o1]) (q0 := 0) (ci := 3) X IR_P k_X2_sleepersByTurns (c_X2_sleepersByTurns l D g q_this q_cells q_froms q_tos q_rings q_pranks x1 f_size a_froms a_tos o3 e4) ql_X2_X2_sleepersByTurns dX2_areSleepersAlike_15 [0, 1, 2] rfl rfl rfl rfl rfl rfl ⟨Nat.le_of_ble_eq_true rfl, Nat.le_of_ble_eq_true rfl, rfl, rfl, Nat.le_of_ble_eq_true rfl, Nat.le_of_ble_eq_true rfl⟩ (Nat.le_of_ble_eq_true rfl) ?_
        refine z_icmp_eq X 23 dX2_areSleepersAlike_18 (by decide) h (fun _ h => ?_) (fun _ h => ?_)
        · refine z_iinc X 1 [(1, .int (x1 + 1)), (0, .ref q_this)] dX2_areSleepersAlike_23 rfl rfl (by decide) rfl ?_
          refine z_goto X 2 dX2_areSleepersAlike_26 (by decide) ?_
          refine z_sub (lv' := [(0, .ref q_this), (1, .int (x1 + 1))]) [1, 0] rfl ?_
          exact ih2 (x1 + 1) h
        · refine z_iconst X (0 : Int32) dX2_areSleepersAlike_21 (by decide) ?_
          exact z_zretR X hQ hr dX2_areSleepersAlike_22 rfl h
  refine z_iconst X (0 : Int32) dX2_areSleepersAlike_0 (by decide) ?_
  refine z_istore_n X [(1, .int (0 : Int32)), (0, .ref q_this)] dX2_areSleepersAlike_1 rfl (by decide) rfl ?_
  refine z_sub (lv' := [(0, .ref q_this), (1, .int (0 : Int32))]) [1, 0] rfl ?_
  exact H2 100 (0 : Int32) h

def L_X10_areWaysAlike_41 (f_p1_houses_size : Int32) (a_p1_houses_cells : Nat → Int32) (a_p1_blocks : Nat → Int32) : Nat → Int32 → (Nat → Int32) → (Nat → Int32) → (Nat → Int32) → Option (Int32 × (Nat → Int32) × (Nat → Int32) × (Nat → Int32))
  | 0, _, _, _, _ => none
  | _n + 1, x2, a_steps, a_queue, a_lows =>
    bnd (F_X2_size f_p1_houses_size) (fun o11 => brn (o11 ≤ x2) (some ((1 : Int32), a_steps, a_queue, a_lows)) (bnd (F_X2_cellAt x2 a_p1_houses_cells) (fun o13 => bnd (F_X7_at 64 o13 a_steps) (fun o15 => bnd (F_X7_at 64 o13 a_lows) (fun o17 => brn (o15 = o17) (L_X10_areWaysAlike_41 f_p1_houses_size a_p1_houses_cells a_p1_blocks _n (x2 + 1) a_steps a_queue a_lows) (some ((0 : Int32), a_steps, a_queue, a_lows)))))))

def F_X10_areWaysAlike (f_p1_houses_size : Int32) (a_p1_houses_cells : Nat → Int32) (a_p1_blocks : Nat → Int32) (a_steps : Nat → Int32) (a_queue : Nat → Int32) (a_lows : Nat → Int32) : Option (Int32 × (Nat → Int32) × (Nat → Int32) × (Nat → Int32)) :=
  bnd (F_X2_has (0 : Int32) f_p1_houses_size) (fun o1 => brn (o1 = 0) (some ((1 : Int32), a_steps, a_queue, a_lows)) (bnd (F_X2_cellAt (0 : Int32) a_p1_houses_cells) (fun o3 => bnd (F_X10_measure o3 a_p1_blocks a_steps a_queue) (fun o5 => bnd (F_X2_cellAt (0 : Int32) a_p1_houses_cells) (fun o7 => bnd (F_X10_lower o7 a_p1_blocks a_lows) (fun o9 => L_X10_areWaysAlike_41 f_p1_houses_size a_p1_houses_cells a_p1_blocks 100 (0 : Int32) o5.1 o5.2 o9))))))
theorem dX10_areWaysAlike_0 : decode cX10_areWaysAlike 0 = .ok (.aload_n 1, 1) := by decide +kernel
theorem dX10_areWaysAlike_1 : decode cX10_areWaysAlike 1 = .ok (.getfield 44, 3) := by decide +kernel
theorem dX10_areWaysAlike_4 : decode cX10_areWaysAlike 4 = .ok (.iconst 0, 1) := by decide +kernel
theorem dX10_areWaysAlike_5 : decode cX10_areWaysAlike 5 = .ok (.invokevirtual 50, 3) := by decide +kernel
theorem dX10_areWaysAlike_8 : decode cX10_areWaysAlike 8 = .ok (.ifCond .ne 5, 3) := by decide +kernel
theorem dX10_areWaysAlike_11 : decode cX10_areWaysAlike 11 = .ok (.iconst 1, 1) := by decide +kernel
theorem dX10_areWaysAlike_12 : decode cX10_areWaysAlike 12 = .ok (.ireturn, 1) := by decide +kernel
theorem dX10_areWaysAlike_13 : decode cX10_areWaysAlike 13 = .ok (.aload_n 0, 1) := by decide +kernel
theorem dX10_areWaysAlike_14 : decode cX10_areWaysAlike 14 = .ok (.aload_n 1, 1) := by decide +kernel
theorem dX10_areWaysAlike_15 : decode cX10_areWaysAlike 15 = .ok (.aload_n 1, 1) := by decide +kernel
theorem dX10_areWaysAlike_16 : decode cX10_areWaysAlike 16 = .ok (.getfield 44, 3) := by decide +kernel
theorem dX10_areWaysAlike_19 : decode cX10_areWaysAlike 19 = .ok (.iconst 0, 1) := by decide +kernel
theorem dX10_areWaysAlike_20 : decode cX10_areWaysAlike 20 = .ok (.invokevirtual 56, 3) := by decide +kernel
theorem dX10_areWaysAlike_23 : decode cX10_areWaysAlike 23 = .ok (.invokevirtual 31, 3) := by decide +kernel
theorem dX10_areWaysAlike_26 : decode cX10_areWaysAlike 26 = .ok (.aload_n 0, 1) := by decide +kernel
theorem dX10_areWaysAlike_27 : decode cX10_areWaysAlike 27 = .ok (.aload_n 1, 1) := by decide +kernel
theorem dX10_areWaysAlike_28 : decode cX10_areWaysAlike 28 = .ok (.aload_n 1, 1) := by decide +kernel
theorem dX10_areWaysAlike_29 : decode cX10_areWaysAlike 29 = .ok (.getfield 44, 3) := by decide +kernel
theorem dX10_areWaysAlike_32 : decode cX10_areWaysAlike 32 = .ok (.iconst 0, 1) := by decide +kernel
theorem dX10_areWaysAlike_33 : decode cX10_areWaysAlike 33 = .ok (.invokevirtual 56, 3) := by decide +kernel
theorem dX10_areWaysAlike_36 : decode cX10_areWaysAlike 36 = .ok (.invokevirtual 41, 3) := by decide +kernel
theorem dX10_areWaysAlike_39 : decode cX10_areWaysAlike 39 = .ok (.iconst 0, 1) := by decide +kernel
theorem dX10_areWaysAlike_40 : decode cX10_areWaysAlike 40 = .ok (.istore_n 2, 1) := by decide +kernel
theorem dX10_areWaysAlike_41 : decode cX10_areWaysAlike 41 = .ok (.iload_n 2, 1) := by decide +kernel
theorem dX10_areWaysAlike_42 : decode cX10_areWaysAlike 42 = .ok (.aload_n 1, 1) := by decide +kernel
theorem dX10_areWaysAlike_43 : decode cX10_areWaysAlike 43 = .ok (.getfield 44, 3) := by decide +kernel
theorem dX10_areWaysAlike_46 : decode cX10_areWaysAlike 46 = .ok (.invokevirtual 60, 3) := by decide +kernel
theorem dX10_areWaysAlike_49 : decode cX10_areWaysAlike 49 = .ok (.if_icmp .ge 39, 3) := by decide +kernel
theorem dX10_areWaysAlike_52 : decode cX10_areWaysAlike 52 = .ok (.aload_n 1, 1) := by decide +kernel
theorem dX10_areWaysAlike_53 : decode cX10_areWaysAlike 53 = .ok (.getfield 44, 3) := by decide +kernel
theorem dX10_areWaysAlike_56 : decode cX10_areWaysAlike 56 = .ok (.iload_n 2, 1) := by decide +kernel
theorem dX10_areWaysAlike_57 : decode cX10_areWaysAlike 57 = .ok (.invokevirtual 56, 3) := by decide +kernel
theorem dX10_areWaysAlike_60 : decode cX10_areWaysAlike 60 = .ok (.istore_n 3, 1) := by decide +kernel
theorem dX10_areWaysAlike_61 : decode cX10_areWaysAlike 61 = .ok (.aload_n 0, 1) := by decide +kernel
theorem dX10_areWaysAlike_62 : decode cX10_areWaysAlike 62 = .ok (.getfield 9, 3) := by decide +kernel
theorem dX10_areWaysAlike_65 : decode cX10_areWaysAlike 65 = .ok (.iload_n 3, 1) := by decide +kernel
theorem dX10_areWaysAlike_66 : decode cX10_areWaysAlike 66 = .ok (.invokestatic 35, 3) := by decide +kernel
theorem dX10_areWaysAlike_69 : decode cX10_areWaysAlike 69 = .ok (.aload_n 0, 1) := by decide +kernel
theorem dX10_areWaysAlike_70 : decode cX10_areWaysAlike 70 = .ok (.getfield 18, 3) := by decide +kernel
theorem dX10_areWaysAlike_73 : decode cX10_areWaysAlike 73 = .ok (.iload_n 3, 1) := by decide +kernel
theorem dX10_areWaysAlike_74 : decode cX10_areWaysAlike 74 = .ok (.invokestatic 35, 3) := by decide +kernel
theorem dX10_areWaysAlike_77 : decode cX10_areWaysAlike 77 = .ok (.if_icmp .eq 5, 3) := by decide +kernel
theorem dX10_areWaysAlike_80 : decode cX10_areWaysAlike 80 = .ok (.iconst 0, 1) := by decide +kernel
theorem dX10_areWaysAlike_81 : decode cX10_areWaysAlike 81 = .ok (.ireturn, 1) := by decide +kernel
theorem dX10_areWaysAlike_82 : decode cX10_areWaysAlike 82 = .ok (.iinc 2 1, 3) := by decide +kernel
theorem dX10_areWaysAlike_85 : decode cX10_areWaysAlike 85 = .ok (.goto (-44), 3) := by decide +kernel
theorem dX10_areWaysAlike_88 : decode cX10_areWaysAlike 88 = .ok (.iconst 1, 1) := by decide +kernel
theorem dX10_areWaysAlike_89 : decode cX10_areWaysAlike 89 = .ok (.ireturn, 1) := by decide +kernel
theorem k_X10_areWaysAlike : cardV yX10_areWaysAlike (Cond.code yX10_areWaysAlike cX10_areWaysAlike 4 (some .boolean)) 1 := ⟨⟨qi_X10_areWaysAlike, qv_X10_areWaysAlike⟩, qc_X10_areWaysAlike, qn_X10, by decide +kernel, by decide +kernel, by decide +kernel⟩
set_option maxHeartbeats 4000000 in
set_option maxRecDepth 100000 in
theorem c_X10_areWaysAlike (l : Launch) (D : va_G) (g : Nat → ClassId) (q_this q_steps q_queue q_lows q_stops q_p1 q_p1_houses q_p1_halls q_p1_posts q_p1_blocks q_p1_kinds q_p1_houses_cells q_p1_houses_froms q_p1_houses_tos q_p1_houses_rings q_p1_houses_pranks : Nat) (f_stopCount : Int32) (f_stepSum : Int32) (a_steps : Nat → Int32) (a_queue : Nat → Int32) (a_lows : Nat → Int32) (f_p1_hour : Int32) (f_p1_day : Int32) (f_p1_prankHouse : Int32) (f_p1_bells : Int32) (f_p1_echoes : Int32) (f_p1_bellPranks : Int32) (f_p1_houses_size : Int32) (a_p1_houses_cells : Nat → Int32) (a_p1_blocks : Nat → Int32) (o : Int32 × (Nat → Int32) × (Nat → Int32) × (Nat → Int32)) (h : F_X10_areWaysAlike f_p1_houses_size a_p1_houses_cells a_p1_blocks a_steps a_queue a_lows = some o) : MW l yX10_areWaysAlike (Cond.code yX10_areWaysAlike cX10_areWaysAlike 4 (some .boolean)) { frames := 5, cells := 0, slots := 0, locals := 117 } D g [.ref q_this, .ref q_p1] [(q_this, .inr (10, [.ref q_steps, .ref q_queue, .ref q_lows, .ref q_stops, .int f_stopCount, .int f_stepSum])), (q_steps, .inl (g 0, 64, .inl a_steps)), (q_queue, .inl (g 0, 64, .inl a_queue)), (q_lows, .inl (g 0, 64, .inl a_lows)), (q_p1, .inr (9, [.ref q_p1_houses, .ref q_p1_halls, .ref q_p1_posts, .ref q_p1_blocks, .ref q_p1_kinds, .int f_p1_hour, .int f_p1_day, .int f_p1_prankHouse, .int f_p1_bells, .int f_p1_echoes, .int f_p1_bellPranks])), (q_p1_houses, .inr (3, [.int f_p1_houses_size, .ref q_p1_houses_cells, .ref q_p1_houses_froms, .ref q_p1_houses_tos, .ref q_p1_houses_rings, .ref q_p1_houses_pranks])), (q_p1_houses_cells, .inl (g 0, 10, .inl a_p1_houses_cells)), (q_p1_blocks, .inl (g 0, 64, .inl a_p1_blocks))] (some (.int o.1)) [(q_this, .inr (10, [.ref q_steps, .ref q_queue, .ref q_lows, .ref q_stops, .int f_stopCount, .int f_stepSum])), (q_steps, .inl (g 0, 64, .inl o.2.1)), (q_queue, .inl (g 0, 64, .inl o.2.2.1)), (q_lows, .inl (g 0, 64, .inl o.2.2.2)), (q_p1, .inr (9, [.ref q_p1_houses, .ref q_p1_halls, .ref q_p1_posts, .ref q_p1_blocks, .ref q_p1_kinds, .int f_p1_hour, .int f_p1_day, .int f_p1_prankHouse, .int f_p1_bells, .int f_p1_echoes, .int f_p1_bellPranks])), (q_p1_houses, .inr (3, [.int f_p1_houses_size, .ref q_p1_houses_cells, .ref q_p1_houses_froms, .ref q_p1_houses_tos, .ref q_p1_houses_rings, .ref q_p1_houses_pranks])), (q_p1_houses_cells, .inl (g 0, 10, .inl a_p1_houses_cells)), (q_p1_blocks, .inl (g 0, 64, .inl a_p1_blocks))] := by
  refine z_wr_start (by decide) (Nat.le_of_ble_eq_true rfl) ?_
  intro p e s m args below meth c Q A X hr hQ hA
  refine z_lv (lv' := [(0, .ref q_this), (1, .ref q_p1)]) rfl ?_
  have H41 : ∀ (n : Nat) (x2 : Int32) (a_steps : Nat → Int32) (a_queue : Nat → Int32) (a_lows : Nat → Int32), L_X10_areWaysAlike_41 f_p1_houses_size a_p1_houses_cells a_p1_blocks  n x2 a_steps a_queue a_lows = some o → Z p l e { frames := 5, cells := 0, slots := 0, locals := 117 } s m args below meth c Q 4 0 0 (IW D A s [(q_this, .inr (10, [.ref q_steps, .ref q_queue, .ref q_lows, .ref q_stops, .int f_stopCount, .int f_stepSum])), (q_steps, .inl (g 0, 64, .inl a_steps)), (q_queue, .inl (g 0, 64, .inl a_queue)), (q_lows, .inl (g 0, 64, .inl a_lows)), (q_p1, .inr (9, [.ref q_p1_houses, .ref q_p1_halls, .ref q_p1_posts, .ref q_p1_blocks, .ref q_p1_kinds, .int f_p1_hour, .int f_p1_day, .int f_p1_prankHouse, .int f_p1_bells, .int f_p1_echoes, .int f_p1_bellPranks])), (q_p1_houses, .inr (3, [.int f_p1_houses_size, .ref q_p1_houses_cells, .ref q_p1_houses_froms, .ref q_p1_houses_tos, .ref q_p1_houses_rings, .ref q_p1_houses_pranks])), (q_p1_houses_cells, .inl (g 0, 10, .inl a_p1_houses_cells)), (q_p1_blocks, .inl (g 0, 64, .inl a_p1_blocks))]) 41 [(0, .ref q_this), (1, .ref q_p1), (2, .int x2)] [] := by
    intro n
    induction n with
    | zero => intro x2 a_steps a_queue a_lows h; cases h
    | succ n41 ih41 =>
      intro x2 a_steps a_queue a_lows h
      refine z_iload_n X 2 dX10_areWaysAlike_41 rfl rfl ?_
      refine z_aload_n X 1 dX10_areWaysAlike_42 rfl rfl ?_
      refine z_getN (q0 := 4) (k := 0) (ci := 9) X IW_P iw_X9 rfl qfN_X10_X9_houses (by decide) dX10_areWaysAlike_43 rfl rfl ?_
      obtain ⟨o11, e12, h⟩ := bnd_p h
      refine z_rdV (rest := [.int x2]) (q0 := 5) (ci := 3) X IW_P k_X2_size (c_X2_size l D g q_p1_houses q_p1_houses_cells q_p1_houses_froms q_p1_houses_tos q_p1_houses_rings q_p1_houses_pranks f_p1_houses_size o11 e12) ql_X10_X2_size dX10_areWaysAlike_46 [5] rfl rfl rfl rfl rfl rfl ⟨Nat.le_of_ble_eq_true rfl, Nat.le_of_ble_eq_true rfl, rfl, rfl, Nat.le_of_ble_eq_true rfl, Nat.le_of_ble_eq_true rfl⟩ (Nat.le_of_ble_eq_true rfl) ?_
      refine z_icmp_ge X 88 dX10_areWaysAlike_49 (by decide) h (fun _ h => ?_) (fun _ h => ?_)
      · refine z_iconst X (1 : Int32) dX10_areWaysAlike_88 (by decide) ?_
        cases h
        exact z_zretW X hQ hA hr dX10_areWaysAlike_89 rfl
      · refine z_aload_n X 1 dX10_areWaysAlike_52 rfl rfl ?_
        refine z_getN (q0 := 4) (k := 0) (ci := 9) X IW_P iw_X9 rfl qfN_X10_X9_houses (by decide) dX10_areWaysAlike_53 rfl rfl ?_
        refine z_iload_n X 2 dX10_areWaysAlike_56 rfl rfl ?_
        obtain ⟨o13, e14, h⟩ := bnd_p h
        refine z_rdV (rest := []) (q0 := 5) (ci := 3) X IW_P k_X2_cellAt (c_X2_cellAt l D g q_p1_houses q_p1_houses_cells q_p1_houses_froms q_p1_houses_tos q_p1_houses_rings q_p1_houses_pranks x2 f_p1_houses_size a_p1_houses_cells o13 e14) ql_X10_X2_cellAt dX10_areWaysAlike_57 [5, 6] rfl rfl rfl rfl rfl rfl ⟨Nat.le_of_ble_eq_true rfl, Nat.le_of_ble_eq_true rfl, rfl, rfl, Nat.le_of_ble_eq_true rfl, Nat.le_of_ble_eq_true rfl⟩ (Nat.le_of_ble_eq_true rfl) ?_
        refine z_istore_n X [(3, .int o13), (0, .ref q_this), (1, .ref q_p1), (2, .int x2)] dX10_areWaysAlike_60 rfl (by decide) rfl ?_
        refine z_aload_n X 1 dX10_areWaysAlike_61 rfl rfl ?_
        refine z_get (q0 := 0) (k := 0) (ci := 10) X IW_P iw_X10 rfl qf_X10_X10_steps (by decide) dX10_areWaysAlike_62 rfl rfl ?_
        refine z_iload_n X 0 dX10_areWaysAlike_65 rfl rfl ?_
        obtain ⟨o15, e16, h⟩ := bnd_p h
        refine z_rdS (rest := []) X IW_P k_X7_at (c_X7_at l D g q_steps 64 o13 a_steps o15 e16) ql_X10_X7_at dX10_areWaysAlike_66 [1] rfl rfl rfl ⟨Nat.le_of_ble_eq_true rfl, Nat.le_of_ble_eq_true rfl, rfl, rfl, Nat.le_of_ble_eq_true rfl, Nat.le_of_ble_eq_true rfl⟩ (Nat.le_of_ble_eq_true rfl) ?_
        refine z_aload_n X 1 dX10_areWaysAlike_69 rfl rfl ?_
        refine z_get (q0 := 0) (k := 2) (ci := 10) X IW_P iw_X10 rfl qf_X10_X10_lows (by decide) dX10_areWaysAlike_70 rfl rfl ?_
        refine z_iload_n X 0 dX10_areWaysAlike_73 rfl rfl ?_
        obtain ⟨o17, e18, h⟩ := bnd_p h
        refine z_rdS (rest := [.int o15]) X IW_P k_X7_at (c_X7_at l D g q_lows 64 o13 a_lows o17 e18) ql_X10_X7_at dX10_areWaysAlike_74 [3] rfl rfl rfl ⟨Nat.le_of_ble_eq_true rfl, Nat.le_of_ble_eq_true rfl, rfl, rfl, Nat.le_of_ble_eq_true rfl, Nat.le_of_ble_eq_true rfl⟩ (Nat.le_of_ble_eq_true rfl) ?_
        refine z_icmp_eq X 82 dX10_areWaysAlike_77 (by decide) h (fun _ h => ?_) (fun _ h => ?_)
        · refine z_iinc X 3 [(2, .int (x2 + 1)), (3, .int o13), (0, .ref q_this), (1, .ref q_p1)] dX10_areWaysAlike_82 rfl rfl (by decide) rfl ?_
          refine z_goto X 41 dX10_areWaysAlike_85 (by decide) ?_
          refine z_sub (lv' := [(0, .ref q_this), (1, .ref q_p1), (2, .int (x2 + 1))]) [2, 3, 0] rfl ?_
          exact ih41 (x2 + 1) a_steps a_queue a_lows h
        · refine z_iconst X (0 : Int32) dX10_areWaysAlike_80 (by decide) ?_
          cases h
          exact z_zretW X hQ hA hr dX10_areWaysAlike_81 rfl
  refine z_aload_n X 1 dX10_areWaysAlike_0 rfl rfl ?_
  refine z_getN (q0 := 4) (k := 0) (ci := 9) X IW_P iw_X9 rfl qfN_X10_X9_houses (by decide) dX10_areWaysAlike_1 rfl rfl ?_
  refine z_iconst X (0 : Int32) dX10_areWaysAlike_4 (by decide) ?_
  obtain ⟨o1, e2, h⟩ := bnd_p h
  refine z_rdV (rest := []) (q0 := 5) (ci := 3) X IW_P k_X2_has (c_X2_has l D g q_p1_houses q_p1_houses_cells q_p1_houses_froms q_p1_houses_tos q_p1_houses_rings q_p1_houses_pranks (0 : Int32) f_p1_houses_size o1 e2) ql_X10_X2_has dX10_areWaysAlike_5 [5] rfl rfl rfl rfl rfl rfl ⟨Nat.le_of_ble_eq_true rfl, Nat.le_of_ble_eq_true rfl, rfl, rfl, Nat.le_of_ble_eq_true rfl, Nat.le_of_ble_eq_true rfl⟩ (Nat.le_of_ble_eq_true rfl) ?_
  refine z_if_ne X 13 dX10_areWaysAlike_8 (by decide) h (fun _ h => ?_) (fun _ h => ?_)
  · refine z_iconst X (1 : Int32) dX10_areWaysAlike_11 (by decide) ?_
    cases h
    exact z_zretW X hQ hA hr dX10_areWaysAlike_12 rfl
  · refine z_aload_n X 0 dX10_areWaysAlike_13 rfl rfl ?_
    refine z_aload_n X 1 dX10_areWaysAlike_14 rfl rfl ?_
    refine z_aload_n X 1 dX10_areWaysAlike_15 rfl rfl ?_
    refine z_getN (q0 := 4) (k := 0) (ci := 9) X IW_P iw_X9 rfl qfN_X10_X9_houses (by decide) dX10_areWaysAlike_16 rfl rfl ?_
    refine z_iconst X (0 : Int32) dX10_areWaysAlike_19 (by decide) ?_
    obtain ⟨o3, e4, h⟩ := bnd_p h
    refine z_rdV (rest := [.ref q_p1, .ref q_this]) (q0 := 5) (ci := 3) X IW_P k_X2_cellAt (c_X2_cellAt l D g q_p1_houses q_p1_houses_cells q_p1_houses_froms q_p1_houses_tos q_p1_houses_rings q_p1_houses_pranks (0 : Int32) f_p1_houses_size a_p1_houses_cells o3 e4) ql_X10_X2_cellAt dX10_areWaysAlike_20 [5, 6] rfl rfl rfl rfl rfl rfl ⟨Nat.le_of_ble_eq_true rfl, Nat.le_of_ble_eq_true rfl, rfl, rfl, Nat.le_of_ble_eq_true rfl, Nat.le_of_ble_eq_true rfl⟩ (Nat.le_of_ble_eq_true rfl) ?_
    obtain ⟨o5, e6, h⟩ := bnd_p h
    refine z_wrV (rest := []) (q0 := 0) (ci := 10) (ws' := [(q_this, .inr (10, [.ref q_steps, .ref q_queue, .ref q_lows, .ref q_stops, .int f_stopCount, .int f_stepSum])), (q_steps, .inl (g 0, 64, .inl o5.1)), (q_queue, .inl (g 0, 64, .inl o5.2)), (q_lows, .inl (g 0, 64, .inl a_lows)), (q_p1, .inr (9, [.ref q_p1_houses, .ref q_p1_halls, .ref q_p1_posts, .ref q_p1_blocks, .ref q_p1_kinds, .int f_p1_hour, .int f_p1_day, .int f_p1_prankHouse, .int f_p1_bells, .int f_p1_echoes, .int f_p1_bellPranks])), (q_p1_houses, .inr (3, [.int f_p1_houses_size, .ref q_p1_houses_cells, .ref q_p1_houses_froms, .ref q_p1_houses_tos, .ref q_p1_houses_rings, .ref q_p1_houses_pranks])), (q_p1_houses_cells, .inl (g 0, 10, .inl a_p1_houses_cells)), (q_p1_blocks, .inl (g 0, 64, .inl a_p1_blocks))]) (wr := [(q_lows, .inl (g 0, 64, .inl a_lows)), (q_p1_houses, .inr (3, [.int f_p1_houses_size, .ref q_p1_houses_cells, .ref q_p1_houses_froms, .ref q_p1_houses_tos, .ref q_p1_houses_rings, .ref q_p1_houses_pranks])), (q_p1_houses_cells, .inl (g 0, 10, .inl a_p1_houses_cells))]) (as := [q_this, q_steps, q_queue, q_lows, q_p1, q_p1_houses, q_p1_houses_cells, q_p1_blocks]) X k_X10_measure (c_X10_measure l D g q_this q_steps q_queue q_lows q_stops q_p1 q_p1_houses q_p1_halls q_p1_posts q_p1_blocks q_p1_kinds o3 f_stopCount f_stepSum a_steps a_queue f_p1_hour f_p1_day f_p1_prankHouse f_p1_bells f_p1_echoes f_p1_bellPranks a_p1_blocks o5 e6) ql_X10_X10_measure dX10_areWaysAlike_23 [0, 1, 2, 4, 7] [3, 5, 6] ⟨rfl, rfl, rfl, rfl, rfl, rfl, rfl, rfl⟩ rfl rfl rfl rfl rfl ⟨Nat.le_of_ble_eq_true rfl, Nat.le_of_ble_eq_true rfl, rfl, rfl, Nat.le_of_ble_eq_true rfl, Nat.le_of_ble_eq_true rfl⟩ (Nat.le_of_ble_eq_true rfl) ?_
    refine z_aload_n X 0 dX10_areWaysAlike_26 rfl rfl ?_
    refine z_aload_n X 1 dX10_areWaysAlike_27 rfl rfl ?_
    refine z_aload_n X 1 dX10_areWaysAlike_28 rfl rfl ?_
    refine z_getN (q0 := 4) (k := 0) (ci := 9) X IW_P iw_X9 rfl qfN_X10_X9_houses (by decide) dX10_areWaysAlike_29 rfl rfl ?_
    refine z_iconst X (0 : Int32) dX10_areWaysAlike_32 (by decide) ?_
    obtain ⟨o7, e8, h⟩ := bnd_p h
    refine z_rdV (rest := [.ref q_p1, .ref q_this]) (q0 := 5) (ci := 3) X IW_P k_X2_cellAt (c_X2_cellAt l D g q_p1_houses q_p1_houses_cells q_p1_houses_froms q_p1_houses_tos q_p1_houses_rings q_p1_houses_pranks (0 : Int32) f_p1_houses_size a_p1_houses_cells o7 e8) ql_X10_X2_cellAt dX10_areWaysAlike_33 [5, 6] rfl rfl rfl rfl rfl rfl ⟨Nat.le_of_ble_eq_true rfl, Nat.le_of_ble_eq_true rfl, rfl, rfl, Nat.le_of_ble_eq_true rfl, Nat.le_of_ble_eq_true rfl⟩ (Nat.le_of_ble_eq_true rfl) ?_
    obtain ⟨o9, e10, h⟩ := bnd_p h
    refine z_wrV (rest := []) (q0 := 0) (ci := 10) (ws' := [(q_this, .inr (10, [.ref q_steps, .ref q_queue, .ref q_lows, .ref q_stops, .int f_stopCount, .int f_stepSum])), (q_steps, .inl (g 0, 64, .inl o5.1)), (q_queue, .inl (g 0, 64, .inl o5.2)), (q_lows, .inl (g 0, 64, .inl o9)), (q_p1, .inr (9, [.ref q_p1_houses, .ref q_p1_halls, .ref q_p1_posts, .ref q_p1_blocks, .ref q_p1_kinds, .int f_p1_hour, .int f_p1_day, .int f_p1_prankHouse, .int f_p1_bells, .int f_p1_echoes, .int f_p1_bellPranks])), (q_p1_houses, .inr (3, [.int f_p1_houses_size, .ref q_p1_houses_cells, .ref q_p1_houses_froms, .ref q_p1_houses_tos, .ref q_p1_houses_rings, .ref q_p1_houses_pranks])), (q_p1_houses_cells, .inl (g 0, 10, .inl a_p1_houses_cells)), (q_p1_blocks, .inl (g 0, 64, .inl a_p1_blocks))]) (wr := [(q_steps, .inl (g 0, 64, .inl o5.1)), (q_queue, .inl (g 0, 64, .inl o5.2)), (q_p1_houses, .inr (3, [.int f_p1_houses_size, .ref q_p1_houses_cells, .ref q_p1_houses_froms, .ref q_p1_houses_tos, .ref q_p1_houses_rings, .ref q_p1_houses_pranks])), (q_p1_houses_cells, .inl (g 0, 10, .inl a_p1_houses_cells))]) (as := [q_this, q_steps, q_queue, q_lows, q_p1, q_p1_houses, q_p1_houses_cells, q_p1_blocks]) X k_X10_lower (c_X10_lower l D g q_this q_steps q_queue q_lows q_stops q_p1 q_p1_houses q_p1_halls q_p1_posts q_p1_blocks q_p1_kinds o7 f_stopCount f_stepSum a_lows f_p1_hour f_p1_day f_p1_prankHouse f_p1_bells f_p1_echoes f_p1_bellPranks a_p1_blocks o9 e10) ql_X10_X10_lower dX10_areWaysAlike_36 [0, 3, 4, 7] [1, 2, 5, 6] ⟨rfl, rfl, rfl, rfl, rfl, rfl, rfl, rfl⟩ rfl rfl rfl rfl rfl ⟨Nat.le_of_ble_eq_true rfl, Nat.le_of_ble_eq_true rfl, rfl, rfl, Nat.le_of_ble_eq_true rfl, Nat.le_of_ble_eq_true rfl⟩ (Nat.le_of_ble_eq_true rfl) ?_
    refine z_iconst X (0 : Int32) dX10_areWaysAlike_39 (by decide) ?_
    refine z_istore_n X [(2, .int (0 : Int32)), (0, .ref q_this), (1, .ref q_p1)] dX10_areWaysAlike_40 rfl (by decide) rfl ?_
    refine z_sub (lv' := [(0, .ref q_this), (1, .ref q_p1), (2, .int (0 : Int32))]) [1, 2, 0] rfl ?_
    exact H41 100 (0 : Int32) o5.1 o5.2 o9 h

def F_X9_countRings (a_kinds : Nat → Int32) : Option (Int32) :=
  bnd (F_X7_sum 4 a_kinds) (fun o1 => some (o1))
theorem dX9_countRings_0 : decode cX9_countRings 0 = .ok (.aload_n 0, 1) := by decide +kernel
theorem dX9_countRings_1 : decode cX9_countRings 1 = .ok (.getfield 36, 3) := by decide +kernel
theorem dX9_countRings_4 : decode cX9_countRings 4 = .ok (.invokestatic 139, 3) := by decide +kernel
theorem dX9_countRings_7 : decode cX9_countRings 7 = .ok (.ireturn, 1) := by decide +kernel
theorem k_X9_countRings : cardV yX9_countRings (Cond.code yX9_countRings cX9_countRings 1 (some .int)) 0 := ⟨⟨qi_X9_countRings, qv_X9_countRings⟩, qc_X9_countRings, qn_X9, by decide +kernel, by decide +kernel, by decide +kernel⟩
set_option maxHeartbeats 4000000 in
set_option maxRecDepth 100000 in
theorem c_X9_countRings (l : Launch) (D : va_G) (g : Nat → ClassId) (q_this q_houses q_halls q_posts q_blocks q_kinds : Nat) (f_hour : Int32) (f_day : Int32) (f_prankHouse : Int32) (f_bells : Int32) (f_echoes : Int32) (f_bellPranks : Int32) (a_kinds : Nat → Int32) (o : Int32) (h : F_X9_countRings a_kinds = some o) : MR l yX9_countRings (Cond.code yX9_countRings cX9_countRings 1 (some .int)) { frames := 1, cells := 0, slots := 0, locals := 25 } D g [.ref q_this] [(q_this, .inr (9, [.ref q_houses, .ref q_halls, .ref q_posts, .ref q_blocks, .ref q_kinds, .int f_hour, .int f_day, .int f_prankHouse, .int f_bells, .int f_echoes, .int f_bellPranks])), (q_kinds, .inl (g 0, 4, .inl a_kinds))] (some (.int o)) := by
  refine z_rd_start (by decide) (Nat.le_of_ble_eq_true rfl) ?_
  intro p e s m args below meth c Q X hr hQ
  refine z_lv (lv' := [(0, .ref q_this)]) rfl ?_
  refine z_aload_n X 0 dX9_countRings_0 rfl rfl ?_
  refine z_get (q0 := 0) (k := 4) (ci := 9) X IR_P iw_X9 rfl qf_X9_X9_kinds (by decide) dX9_countRings_1 rfl rfl ?_
  obtain ⟨o1, e2, h⟩ := bnd_p h
  refine z_rdS (rest := []) X IR_P k_X7_sum (c_X7_sum l D g q_kinds 4 a_kinds o1 e2) ql_X9_X7_sum dX9_countRings_4 [1] rfl rfl rfl ⟨Nat.le_of_ble_eq_true rfl, Nat.le_of_ble_eq_true rfl, rfl, rfl, Nat.le_of_ble_eq_true rfl, Nat.le_of_ble_eq_true rfl⟩ (Nat.le_of_ble_eq_true rfl) ?_
  exact z_iretR X hQ hr dX9_countRings_7 h

def F_X9_areRingsComplete (f_bells : Int32) (f_echoes : Int32) (a_kinds : Nat → Int32) : Option (Int32) :=
  bnd (F_X9_countRings a_kinds) (fun o1 => brn (o1 = (f_bells + f_echoes)) (some ((1 : Int32))) (some ((0 : Int32))))
theorem dX9_areRingsComplete_0 : decode cX9_areRingsComplete 0 = .ok (.aload_n 0, 1) := by decide +kernel
theorem dX9_areRingsComplete_1 : decode cX9_areRingsComplete 1 = .ok (.invokevirtual 186, 3) := by decide +kernel
theorem dX9_areRingsComplete_4 : decode cX9_areRingsComplete 4 = .ok (.aload_n 0, 1) := by decide +kernel
theorem dX9_areRingsComplete_5 : decode cX9_areRingsComplete 5 = .ok (.getfield 49, 3) := by decide +kernel
theorem dX9_areRingsComplete_8 : decode cX9_areRingsComplete 8 = .ok (.aload_n 0, 1) := by decide +kernel
theorem dX9_areRingsComplete_9 : decode cX9_areRingsComplete 9 = .ok (.getfield 52, 3) := by decide +kernel
theorem dX9_areRingsComplete_12 : decode cX9_areRingsComplete 12 = .ok (.iadd, 1) := by decide +kernel
theorem dX9_areRingsComplete_13 : decode cX9_areRingsComplete 13 = .ok (.if_icmp .ne 7, 3) := by decide +kernel
theorem dX9_areRingsComplete_16 : decode cX9_areRingsComplete 16 = .ok (.iconst 1, 1) := by decide +kernel
theorem dX9_areRingsComplete_17 : decode cX9_areRingsComplete 17 = .ok (.goto 4, 3) := by decide +kernel
theorem dX9_areRingsComplete_20 : decode cX9_areRingsComplete 20 = .ok (.iconst 0, 1) := by decide +kernel
theorem dX9_areRingsComplete_21 : decode cX9_areRingsComplete 21 = .ok (.ireturn, 1) := by decide +kernel
theorem k_X9_areRingsComplete : cardV yX9_areRingsComplete (Cond.code yX9_areRingsComplete cX9_areRingsComplete 1 (some .boolean)) 0 := ⟨⟨qi_X9_areRingsComplete, qv_X9_areRingsComplete⟩, qc_X9_areRingsComplete, qn_X9, by decide +kernel, by decide +kernel, by decide +kernel⟩
set_option maxHeartbeats 4000000 in
set_option maxRecDepth 100000 in
theorem c_X9_areRingsComplete (l : Launch) (D : va_G) (g : Nat → ClassId) (q_this q_houses q_halls q_posts q_blocks q_kinds : Nat) (f_hour : Int32) (f_day : Int32) (f_prankHouse : Int32) (f_bells : Int32) (f_echoes : Int32) (f_bellPranks : Int32) (a_kinds : Nat → Int32) (o : Int32) (h : F_X9_areRingsComplete f_bells f_echoes a_kinds = some o) : MR l yX9_areRingsComplete (Cond.code yX9_areRingsComplete cX9_areRingsComplete 1 (some .boolean)) { frames := 2, cells := 0, slots := 0, locals := 45 } D g [.ref q_this] [(q_this, .inr (9, [.ref q_houses, .ref q_halls, .ref q_posts, .ref q_blocks, .ref q_kinds, .int f_hour, .int f_day, .int f_prankHouse, .int f_bells, .int f_echoes, .int f_bellPranks])), (q_kinds, .inl (g 0, 4, .inl a_kinds))] (some (.int o)) := by
  refine z_rd_start (by decide) (Nat.le_of_ble_eq_true rfl) ?_
  intro p e s m args below meth c Q X hr hQ
  refine z_lv (lv' := [(0, .ref q_this)]) rfl ?_
  refine z_aload_n X 0 dX9_areRingsComplete_0 rfl rfl ?_
  obtain ⟨o1, e2, h⟩ := bnd_p h
  refine z_rdV (rest := []) (q0 := 0) (ci := 9) X IR_P k_X9_countRings (c_X9_countRings l D g q_this q_houses q_halls q_posts q_blocks q_kinds f_hour f_day f_prankHouse f_bells f_echoes f_bellPranks a_kinds o1 e2) ql_X9_X9_countRings dX9_areRingsComplete_1 [0, 1] rfl rfl rfl rfl rfl rfl ⟨Nat.le_of_ble_eq_true rfl, Nat.le_of_ble_eq_true rfl, rfl, rfl, Nat.le_of_ble_eq_true rfl, Nat.le_of_ble_eq_true rfl⟩ (Nat.le_of_ble_eq_true rfl) ?_
  refine z_aload_n X 0 dX9_areRingsComplete_4 rfl rfl ?_
  refine z_get (q0 := 0) (k := 8) (ci := 9) X IR_P iw_X9 rfl qf_X9_X9_bells (by decide) dX9_areRingsComplete_5 rfl rfl ?_
  refine z_aload_n X 0 dX9_areRingsComplete_8 rfl rfl ?_
  refine z_get (q0 := 0) (k := 9) (ci := 9) X IR_P iw_X9 rfl qf_X9_X9_echoes (by decide) dX9_areRingsComplete_9 rfl rfl ?_
  refine z_iadd X dX9_areRingsComplete_12 ?_
  refine z_icmp_ne X 20 dX9_areRingsComplete_13 (by decide) h (fun _ h => ?_) (fun _ h => ?_)
  · refine z_iconst X (1 : Int32) dX9_areRingsComplete_16 (by decide) ?_
    refine z_goto X 21 dX9_areRingsComplete_17 (by decide) ?_
    exact z_zretR X hQ hr dX9_areRingsComplete_21 rfl h
  · refine z_iconst X (0 : Int32) dX9_areRingsComplete_20 (by decide) ?_
    exact z_zretR X hQ hr dX9_areRingsComplete_21 rfl h

def J_X11_isWell_40 (f_town_prankHouse : Int32) (f_town_bells : Int32) (f_town_echoes : Int32) (f_town_houses_size : Int32) (a_town_houses_cells : Nat → Int32) (a_town_houses_froms : Nat → Int32) (a_town_houses_tos : Nat → Int32) (f_town_posts_size : Int32) (a_town_posts_cells : Nat → Int32) (a_town_posts_tolds : Nat → Int32) (a_town_blocks : Nat → Int32) (a_town_kinds : Nat → Int32) (a_ways_steps : Nat → Int32) (a_ways_queue : Nat → Int32) (a_ways_lows : Nat → Int32) : Option (Int32 × (Nat → Int32) × (Nat → Int32) × (Nat → Int32)) :=
  bnd (F_X10_areWaysAlike f_town_houses_size a_town_houses_cells a_town_blocks a_ways_steps a_ways_queue a_ways_lows) (fun o5 => brn (o5.1 = 0) (some ((0 : Int32), o5.2.1, o5.2.2.1, o5.2.2.2)) (bnd (F_X9_areRingsComplete f_town_bells f_town_echoes a_town_kinds) (fun o7 => brn (o7 = 0) (some ((0 : Int32), o5.2.1, o5.2.2.1, o5.2.2.2)) (some ((1 : Int32), o5.2.1, o5.2.2.1, o5.2.2.2)))))

def F_X11_isWell (f_town_prankHouse : Int32) (f_town_bells : Int32) (f_town_echoes : Int32) (f_town_houses_size : Int32) (a_town_houses_cells : Nat → Int32) (a_town_houses_froms : Nat → Int32) (a_town_houses_tos : Nat → Int32) (f_town_posts_size : Int32) (a_town_posts_cells : Nat → Int32) (a_town_posts_tolds : Nat → Int32) (a_town_blocks : Nat → Int32) (a_town_kinds : Nat → Int32) (a_ways_steps : Nat → Int32) (a_ways_queue : Nat → Int32) (a_ways_lows : Nat → Int32) : Option (Int32 × (Nat → Int32) × (Nat → Int32) × (Nat → Int32)) :=
  bnd (F_X2_areSleepersAlike f_town_houses_size a_town_houses_froms a_town_houses_tos) (fun o1 => brn (o1 = 0) (some ((0 : Int32), a_ways_steps, a_ways_queue, a_ways_lows)) (bnd (F_X9_hasPrank f_town_prankHouse) (fun o3 => brn (o3 = 0) (J_X11_isWell_40 f_town_prankHouse f_town_bells f_town_echoes f_town_houses_size a_town_houses_cells a_town_houses_froms a_town_houses_tos f_town_posts_size a_town_posts_cells a_town_posts_tolds a_town_blocks a_town_kinds a_ways_steps a_ways_queue a_ways_lows) (bnd (F_X9_countFits f_town_posts_size a_town_posts_cells a_town_posts_tolds a_town_blocks) (fun o9 => bnd (F_X9_countFitsAround f_town_posts_size a_town_posts_cells a_town_posts_tolds a_town_blocks) (fun o11 => brn (o9 = o11) (J_X11_isWell_40 f_town_prankHouse f_town_bells f_town_echoes f_town_houses_size a_town_houses_cells a_town_houses_froms a_town_houses_tos f_town_posts_size a_town_posts_cells a_town_posts_tolds a_town_blocks a_town_kinds a_ways_steps a_ways_queue a_ways_lows) (some ((0 : Int32), a_ways_steps, a_ways_queue, a_ways_lows))))))))
theorem dX11_isWell_0 : decode cX11_isWell 0 = .ok (.aload_n 0, 1) := by decide +kernel
theorem dX11_isWell_1 : decode cX11_isWell 1 = .ok (.getfield 10, 3) := by decide +kernel
theorem dX11_isWell_4 : decode cX11_isWell 4 = .ok (.getfield 73, 3) := by decide +kernel
theorem dX11_isWell_7 : decode cX11_isWell 7 = .ok (.invokevirtual 334, 3) := by decide +kernel
theorem dX11_isWell_10 : decode cX11_isWell 10 = .ok (.ifCond .eq 58, 3) := by decide +kernel
theorem dX11_isWell_13 : decode cX11_isWell 13 = .ok (.aload_n 0, 1) := by decide +kernel
theorem dX11_isWell_14 : decode cX11_isWell 14 = .ok (.getfield 10, 3) := by decide +kernel
theorem dX11_isWell_17 : decode cX11_isWell 17 = .ok (.invokevirtual 230, 3) := by decide +kernel
theorem dX11_isWell_20 : decode cX11_isWell 20 = .ok (.ifCond .eq 20, 3) := by decide +kernel
theorem dX11_isWell_23 : decode cX11_isWell 23 = .ok (.aload_n 0, 1) := by decide +kernel
theorem dX11_isWell_24 : decode cX11_isWell 24 = .ok (.getfield 10, 3) := by decide +kernel
theorem dX11_isWell_27 : decode cX11_isWell 27 = .ok (.invokevirtual 218, 3) := by decide +kernel
theorem dX11_isWell_30 : decode cX11_isWell 30 = .ok (.aload_n 0, 1) := by decide +kernel
theorem dX11_isWell_31 : decode cX11_isWell 31 = .ok (.getfield 10, 3) := by decide +kernel
theorem dX11_isWell_34 : decode cX11_isWell 34 = .ok (.invokevirtual 237, 3) := by decide +kernel
theorem dX11_isWell_37 : decode cX11_isWell 37 = .ok (.if_icmp .ne 31, 3) := by decide +kernel
theorem dX11_isWell_40 : decode cX11_isWell 40 = .ok (.aload_n 0, 1) := by decide +kernel
theorem dX11_isWell_41 : decode cX11_isWell 41 = .ok (.getfield 50, 3) := by decide +kernel
theorem dX11_isWell_44 : decode cX11_isWell 44 = .ok (.aload_n 0, 1) := by decide +kernel
theorem dX11_isWell_45 : decode cX11_isWell 45 = .ok (.getfield 10, 3) := by decide +kernel
theorem dX11_isWell_48 : decode cX11_isWell 48 = .ok (.invokevirtual 337, 3) := by decide +kernel
theorem dX11_isWell_51 : decode cX11_isWell 51 = .ok (.ifCond .eq 17, 3) := by decide +kernel
theorem dX11_isWell_54 : decode cX11_isWell 54 = .ok (.aload_n 0, 1) := by decide +kernel
theorem dX11_isWell_55 : decode cX11_isWell 55 = .ok (.getfield 10, 3) := by decide +kernel
theorem dX11_isWell_58 : decode cX11_isWell 58 = .ok (.invokevirtual 341, 3) := by decide +kernel
theorem dX11_isWell_61 : decode cX11_isWell 61 = .ok (.ifCond .eq 7, 3) := by decide +kernel
theorem dX11_isWell_64 : decode cX11_isWell 64 = .ok (.iconst 1, 1) := by decide +kernel
theorem dX11_isWell_65 : decode cX11_isWell 65 = .ok (.goto 4, 3) := by decide +kernel
theorem dX11_isWell_68 : decode cX11_isWell 68 = .ok (.iconst 0, 1) := by decide +kernel
theorem dX11_isWell_69 : decode cX11_isWell 69 = .ok (.ireturn, 1) := by decide +kernel
theorem k_X11_isWell : cardV yX11_isWell (Cond.code yX11_isWell cX11_isWell 1 (some .boolean)) 0 := ⟨⟨qi_X11_isWell, qv_X11_isWell⟩, qc_X11_isWell, qn_X11, by decide +kernel, by decide +kernel, by decide +kernel⟩
set_option maxHeartbeats 4000000 in
set_option maxRecDepth 100000 in
theorem c_X11_isWell (l : Launch) (D : va_G) (g : Nat → ClassId) (q_this q_town q_ahead q_kept q_past q_reason q_orders q_ways q_sheet q_town_houses q_town_halls q_town_posts q_town_blocks q_town_kinds q_town_houses_cells q_town_houses_froms q_town_houses_tos q_town_houses_rings q_town_houses_pranks q_town_posts_cells q_town_posts_tolds q_ways_steps q_ways_queue q_ways_lows q_ways_stops : Nat) (f_isKept : Int32) (f_town_hour : Int32) (f_town_day : Int32) (f_town_prankHouse : Int32) (f_town_bells : Int32) (f_town_echoes : Int32) (f_town_bellPranks : Int32) (f_town_houses_size : Int32) (a_town_houses_cells : Nat → Int32) (a_town_houses_froms : Nat → Int32) (a_town_houses_tos : Nat → Int32) (f_town_posts_size : Int32) (a_town_posts_cells : Nat → Int32) (a_town_posts_tolds : Nat → Int32) (a_town_blocks : Nat → Int32) (a_town_kinds : Nat → Int32) (f_ways_stopCount : Int32) (f_ways_stepSum : Int32) (a_ways_steps : Nat → Int32) (a_ways_queue : Nat → Int32) (a_ways_lows : Nat → Int32) (o : Int32 × (Nat → Int32) × (Nat → Int32) × (Nat → Int32)) (h : F_X11_isWell f_town_prankHouse f_town_bells f_town_echoes f_town_houses_size a_town_houses_cells a_town_houses_froms a_town_houses_tos f_town_posts_size a_town_posts_cells a_town_posts_tolds a_town_blocks a_town_kinds a_ways_steps a_ways_queue a_ways_lows = some o) : MW l yX11_isWell (Cond.code yX11_isWell cX11_isWell 1 (some .boolean)) { frames := 6, cells := 0, slots := 0, locals := 152 } D g [.ref q_this] [(q_this, .inr (11, [.ref q_town, .ref q_ahead, .ref q_kept, .int f_isKept, .ref q_past, .ref q_reason, .ref q_orders, .ref q_ways, .ref q_sheet])), (q_town, .inr (9, [.ref q_town_houses, .ref q_town_halls, .ref q_town_posts, .ref q_town_blocks, .ref q_town_kinds, .int f_town_hour, .int f_town_day, .int f_town_prankHouse, .int f_town_bells, .int f_town_echoes, .int f_town_bellPranks])), (q_town_houses, .inr (3, [.int f_town_houses_size, .ref q_town_houses_cells, .ref q_town_houses_froms, .ref q_town_houses_tos, .ref q_town_houses_rings, .ref q_town_houses_pranks])), (q_town_houses_cells, .inl (g 0, 10, .inl a_town_houses_cells)), (q_town_houses_froms, .inl (g 0, 10, .inl a_town_houses_froms)), (q_town_houses_tos, .inl (g 0, 10, .inl a_town_houses_tos)), (q_town_posts, .inr (6, [.int f_town_posts_size, .ref q_town_posts_cells, .ref q_town_posts_tolds])), (q_town_posts_cells, .inl (g 0, 4, .inl a_town_posts_cells)), (q_town_posts_tolds, .inl (g 0, 4, .inl a_town_posts_tolds)), (q_town_blocks, .inl (g 0, 64, .inl a_town_blocks)), (q_town_kinds, .inl (g 0, 4, .inl a_town_kinds)), (q_ways, .inr (10, [.ref q_ways_steps, .ref q_ways_queue, .ref q_ways_lows, .ref q_ways_stops, .int f_ways_stopCount, .int f_ways_stepSum])), (q_ways_steps, .inl (g 0, 64, .inl a_ways_steps)), (q_ways_queue, .inl (g 0, 64, .inl a_ways_queue)), (q_ways_lows, .inl (g 0, 64, .inl a_ways_lows))] (some (.int o.1)) [(q_this, .inr (11, [.ref q_town, .ref q_ahead, .ref q_kept, .int f_isKept, .ref q_past, .ref q_reason, .ref q_orders, .ref q_ways, .ref q_sheet])), (q_town, .inr (9, [.ref q_town_houses, .ref q_town_halls, .ref q_town_posts, .ref q_town_blocks, .ref q_town_kinds, .int f_town_hour, .int f_town_day, .int f_town_prankHouse, .int f_town_bells, .int f_town_echoes, .int f_town_bellPranks])), (q_town_houses, .inr (3, [.int f_town_houses_size, .ref q_town_houses_cells, .ref q_town_houses_froms, .ref q_town_houses_tos, .ref q_town_houses_rings, .ref q_town_houses_pranks])), (q_town_houses_cells, .inl (g 0, 10, .inl a_town_houses_cells)), (q_town_houses_froms, .inl (g 0, 10, .inl a_town_houses_froms)), (q_town_houses_tos, .inl (g 0, 10, .inl a_town_houses_tos)), (q_town_posts, .inr (6, [.int f_town_posts_size, .ref q_town_posts_cells, .ref q_town_posts_tolds])), (q_town_posts_cells, .inl (g 0, 4, .inl a_town_posts_cells)), (q_town_posts_tolds, .inl (g 0, 4, .inl a_town_posts_tolds)), (q_town_blocks, .inl (g 0, 64, .inl a_town_blocks)), (q_town_kinds, .inl (g 0, 4, .inl a_town_kinds)), (q_ways, .inr (10, [.ref q_ways_steps, .ref q_ways_queue, .ref q_ways_lows, .ref q_ways_stops, .int f_ways_stopCount, .int f_ways_stepSum])), (q_ways_steps, .inl (g 0, 64, .inl o.2.1)), (q_ways_queue, .inl (g 0, 64, .inl o.2.2.1)), (q_ways_lows, .inl (g 0, 64, .inl o.2.2.2))] := by
  refine z_wr_start (by decide) (Nat.le_of_ble_eq_true rfl) ?_
  intro p e s m args below meth c Q A X hr hQ hA
  refine z_lv (lv' := [(0, .ref q_this)]) rfl ?_
  have H40 : ∀ (a_ways_steps : Nat → Int32) (a_ways_queue : Nat → Int32) (a_ways_lows : Nat → Int32), J_X11_isWell_40 f_town_prankHouse f_town_bells f_town_echoes f_town_houses_size a_town_houses_cells a_town_houses_froms a_town_houses_tos f_town_posts_size a_town_posts_cells a_town_posts_tolds a_town_blocks a_town_kinds a_ways_steps a_ways_queue a_ways_lows = some o → Z p l e { frames := 6, cells := 0, slots := 0, locals := 152 } s m args below meth c Q 1 0 0 (IW D A s [(q_this, .inr (11, [.ref q_town, .ref q_ahead, .ref q_kept, .int f_isKept, .ref q_past, .ref q_reason, .ref q_orders, .ref q_ways, .ref q_sheet])), (q_town, .inr (9, [.ref q_town_houses, .ref q_town_halls, .ref q_town_posts, .ref q_town_blocks, .ref q_town_kinds, .int f_town_hour, .int f_town_day, .int f_town_prankHouse, .int f_town_bells, .int f_town_echoes, .int f_town_bellPranks])), (q_town_houses, .inr (3, [.int f_town_houses_size, .ref q_town_houses_cells, .ref q_town_houses_froms, .ref q_town_houses_tos, .ref q_town_houses_rings, .ref q_town_houses_pranks])), (q_town_houses_cells, .inl (g 0, 10, .inl a_town_houses_cells)), (q_town_houses_froms, .inl (g 0, 10, .inl a_town_houses_froms)), (q_town_houses_tos, .inl (g 0, 10, .inl a_town_houses_tos)), (q_town_posts, .inr (6, [.int f_town_posts_size, .ref q_town_posts_cells, .ref q_town_posts_tolds])), (q_town_posts_cells, .inl (g 0, 4, .inl a_town_posts_cells)), (q_town_posts_tolds, .inl (g 0, 4, .inl a_town_posts_tolds)), (q_town_blocks, .inl (g 0, 64, .inl a_town_blocks)), (q_town_kinds, .inl (g 0, 4, .inl a_town_kinds)), (q_ways, .inr (10, [.ref q_ways_steps, .ref q_ways_queue, .ref q_ways_lows, .ref q_ways_stops, .int f_ways_stopCount, .int f_ways_stepSum])), (q_ways_steps, .inl (g 0, 64, .inl a_ways_steps)), (q_ways_queue, .inl (g 0, 64, .inl a_ways_queue)), (q_ways_lows, .inl (g 0, 64, .inl a_ways_lows))]) 40 [(0, .ref q_this)] [] := by
    intro a_ways_steps a_ways_queue a_ways_lows h
    refine z_aload_n X 0 dX11_isWell_40 rfl rfl ?_
    refine z_get (q0 := 0) (k := 7) (ci := 11) X IW_P iw_X11 rfl qf_X11_X11_ways (by decide) dX11_isWell_41 rfl rfl ?_
    refine z_aload_n X 0 dX11_isWell_44 rfl rfl ?_
    refine z_get (q0 := 0) (k := 0) (ci := 11) X IW_P iw_X11 rfl qf_X11_X11_town (by decide) dX11_isWell_45 rfl rfl ?_
    obtain ⟨o5, e6, h⟩ := bnd_p h
    refine z_wrV (rest := []) (q0 := 11) (ci := 10) (ws' := [(q_this, .inr (11, [.ref q_town, .ref q_ahead, .ref q_kept, .int f_isKept, .ref q_past, .ref q_reason, .ref q_orders, .ref q_ways, .ref q_sheet])), (q_town, .inr (9, [.ref q_town_houses, .ref q_town_halls, .ref q_town_posts, .ref q_town_blocks, .ref q_town_kinds, .int f_town_hour, .int f_town_day, .int f_town_prankHouse, .int f_town_bells, .int f_town_echoes, .int f_town_bellPranks])), (q_town_houses, .inr (3, [.int f_town_houses_size, .ref q_town_houses_cells, .ref q_town_houses_froms, .ref q_town_houses_tos, .ref q_town_houses_rings, .ref q_town_houses_pranks])), (q_town_houses_cells, .inl (g 0, 10, .inl a_town_houses_cells)), (q_town_houses_froms, .inl (g 0, 10, .inl a_town_houses_froms)), (q_town_houses_tos, .inl (g 0, 10, .inl a_town_houses_tos)), (q_town_posts, .inr (6, [.int f_town_posts_size, .ref q_town_posts_cells, .ref q_town_posts_tolds])), (q_town_posts_cells, .inl (g 0, 4, .inl a_town_posts_cells)), (q_town_posts_tolds, .inl (g 0, 4, .inl a_town_posts_tolds)), (q_town_blocks, .inl (g 0, 64, .inl a_town_blocks)), (q_town_kinds, .inl (g 0, 4, .inl a_town_kinds)), (q_ways, .inr (10, [.ref q_ways_steps, .ref q_ways_queue, .ref q_ways_lows, .ref q_ways_stops, .int f_ways_stopCount, .int f_ways_stepSum])), (q_ways_steps, .inl (g 0, 64, .inl o5.2.1)), (q_ways_queue, .inl (g 0, 64, .inl o5.2.2.1)), (q_ways_lows, .inl (g 0, 64, .inl o5.2.2.2))]) (wr := [(q_this, .inr (11, [.ref q_town, .ref q_ahead, .ref q_kept, .int f_isKept, .ref q_past, .ref q_reason, .ref q_orders, .ref q_ways, .ref q_sheet])), (q_town_houses_froms, .inl (g 0, 10, .inl a_town_houses_froms)), (q_town_houses_tos, .inl (g 0, 10, .inl a_town_houses_tos)), (q_town_posts, .inr (6, [.int f_town_posts_size, .ref q_town_posts_cells, .ref q_town_posts_tolds])), (q_town_posts_cells, .inl (g 0, 4, .inl a_town_posts_cells)), (q_town_posts_tolds, .inl (g 0, 4, .inl a_town_posts_tolds)), (q_town_kinds, .inl (g 0, 4, .inl a_town_kinds))]) (as := [q_this, q_town, q_town_houses, q_town_houses_cells, q_town_houses_froms, q_town_houses_tos, q_town_posts, q_town_posts_cells, q_town_posts_tolds, q_town_blocks, q_town_kinds, q_ways, q_ways_steps, q_ways_queue, q_ways_lows]) X k_X10_areWaysAlike (c_X10_areWaysAlike l D g q_ways q_ways_steps q_ways_queue q_ways_lows q_ways_stops q_town q_town_houses q_town_halls q_town_posts q_town_blocks q_town_kinds q_town_houses_cells q_town_houses_froms q_town_houses_tos q_town_houses_rings q_town_houses_pranks f_ways_stopCount f_ways_stepSum a_ways_steps a_ways_queue a_ways_lows f_town_hour f_town_day f_town_prankHouse f_town_bells f_town_echoes f_town_bellPranks f_town_houses_size a_town_houses_cells a_town_blocks o5 e6) ql_X11_X10_areWaysAlike dX11_isWell_48 [11, 12, 13, 14, 1, 2, 3, 9] [0, 4, 5, 6, 7, 8, 10] ⟨rfl, rfl, rfl, rfl, rfl, rfl, rfl, rfl⟩ rfl rfl rfl rfl rfl ⟨Nat.le_of_ble_eq_true rfl, Nat.le_of_ble_eq_true rfl, rfl, rfl, Nat.le_of_ble_eq_true rfl, Nat.le_of_ble_eq_true rfl⟩ (Nat.le_of_ble_eq_true rfl) ?_
    refine z_if_eq X 68 dX11_isWell_51 (by decide) h (fun _ h => ?_) (fun _ h => ?_)
    · refine z_iconst X (0 : Int32) dX11_isWell_68 (by decide) ?_
      cases h
      exact z_zretW X hQ hA hr dX11_isWell_69 rfl
    · refine z_aload_n X 0 dX11_isWell_54 rfl rfl ?_
      refine z_get (q0 := 0) (k := 0) (ci := 11) X IW_P iw_X11 rfl qf_X11_X11_town (by decide) dX11_isWell_55 rfl rfl ?_
      obtain ⟨o7, e8, h⟩ := bnd_p h
      refine z_rdV (rest := []) (q0 := 1) (ci := 9) X IW_P k_X9_areRingsComplete (c_X9_areRingsComplete l D g q_town q_town_houses q_town_halls q_town_posts q_town_blocks q_town_kinds f_town_hour f_town_day f_town_prankHouse f_town_bells f_town_echoes f_town_bellPranks a_town_kinds o7 e8) ql_X11_X9_areRingsComplete dX11_isWell_58 [1, 10] rfl rfl rfl rfl rfl rfl ⟨Nat.le_of_ble_eq_true rfl, Nat.le_of_ble_eq_true rfl, rfl, rfl, Nat.le_of_ble_eq_true rfl, Nat.le_of_ble_eq_true rfl⟩ (Nat.le_of_ble_eq_true rfl) ?_
      refine z_if_eq X 68 dX11_isWell_61 (by decide) h (fun _ h => ?_) (fun _ h => ?_)
      · refine z_iconst X (0 : Int32) dX11_isWell_68 (by decide) ?_
        cases h
        exact z_zretW X hQ hA hr dX11_isWell_69 rfl
      · refine z_iconst X (1 : Int32) dX11_isWell_64 (by decide) ?_
        refine z_goto X 69 dX11_isWell_65 (by decide) ?_
        cases h
        exact z_zretW X hQ hA hr dX11_isWell_69 rfl
  refine z_aload_n X 0 dX11_isWell_0 rfl rfl ?_
  refine z_get (q0 := 0) (k := 0) (ci := 11) X IW_P iw_X11 rfl qf_X11_X11_town (by decide) dX11_isWell_1 rfl rfl ?_
  refine z_getN (q0 := 1) (k := 0) (ci := 9) X IW_P iw_X9 rfl qfN_X11_X9_houses (by decide) dX11_isWell_4 rfl rfl ?_
  obtain ⟨o1, e2, h⟩ := bnd_p h
  refine z_rdV (rest := []) (q0 := 2) (ci := 3) X IW_P k_X2_areSleepersAlike (c_X2_areSleepersAlike l D g q_town_houses q_town_houses_cells q_town_houses_froms q_town_houses_tos q_town_houses_rings q_town_houses_pranks f_town_houses_size a_town_houses_froms a_town_houses_tos o1 e2) ql_X11_X2_areSleepersAlike dX11_isWell_7 [2, 4, 5] rfl rfl rfl rfl rfl rfl ⟨Nat.le_of_ble_eq_true rfl, Nat.le_of_ble_eq_true rfl, rfl, rfl, Nat.le_of_ble_eq_true rfl, Nat.le_of_ble_eq_true rfl⟩ (Nat.le_of_ble_eq_true rfl) ?_
  refine z_if_eq X 68 dX11_isWell_10 (by decide) h (fun _ h => ?_) (fun _ h => ?_)
  · refine z_iconst X (0 : Int32) dX11_isWell_68 (by decide) ?_
    cases h
    exact z_zretW X hQ hA hr dX11_isWell_69 rfl
  · refine z_aload_n X 0 dX11_isWell_13 rfl rfl ?_
    refine z_get (q0 := 0) (k := 0) (ci := 11) X IW_P iw_X11 rfl qf_X11_X11_town (by decide) dX11_isWell_14 rfl rfl ?_
    obtain ⟨o3, e4, h⟩ := bnd_p h
    refine z_rdV (rest := []) (q0 := 1) (ci := 9) X IW_P k_X9_hasPrank (c_X9_hasPrank l D g q_town q_town_houses q_town_halls q_town_posts q_town_blocks q_town_kinds f_town_hour f_town_day f_town_prankHouse f_town_bells f_town_echoes f_town_bellPranks o3 e4) ql_X11_X9_hasPrank dX11_isWell_17 [1] rfl rfl rfl rfl rfl rfl ⟨Nat.le_of_ble_eq_true rfl, Nat.le_of_ble_eq_true rfl, rfl, rfl, Nat.le_of_ble_eq_true rfl, Nat.le_of_ble_eq_true rfl⟩ (Nat.le_of_ble_eq_true rfl) ?_
    refine z_if_eq X 40 dX11_isWell_20 (by decide) h (fun _ h => ?_) (fun _ h => ?_)
    · exact H40 a_ways_steps a_ways_queue a_ways_lows h
    · refine z_aload_n X 0 dX11_isWell_23 rfl rfl ?_
      refine z_get (q0 := 0) (k := 0) (ci := 11) X IW_P iw_X11 rfl qf_X11_X11_town (by decide) dX11_isWell_24 rfl rfl ?_
      obtain ⟨o9, e10, h⟩ := bnd_p h
      refine z_rdV (rest := []) (q0 := 1) (ci := 9) X IW_P k_X9_countFits (c_X9_countFits l D g q_town q_town_houses q_town_halls q_town_posts q_town_blocks q_town_kinds q_town_posts_cells q_town_posts_tolds f_town_hour f_town_day f_town_prankHouse f_town_bells f_town_echoes f_town_bellPranks f_town_posts_size a_town_posts_cells a_town_posts_tolds a_town_blocks o9 e10) ql_X11_X9_countFits dX11_isWell_27 [1, 6, 7, 8, 9] rfl rfl rfl rfl rfl rfl ⟨Nat.le_of_ble_eq_true rfl, Nat.le_of_ble_eq_true rfl, rfl, rfl, Nat.le_of_ble_eq_true rfl, Nat.le_of_ble_eq_true rfl⟩ (Nat.le_of_ble_eq_true rfl) ?_
      refine z_aload_n X 0 dX11_isWell_30 rfl rfl ?_
      refine z_get (q0 := 0) (k := 0) (ci := 11) X IW_P iw_X11 rfl qf_X11_X11_town (by decide) dX11_isWell_31 rfl rfl ?_
      obtain ⟨o11, e12, h⟩ := bnd_p h
      refine z_rdV (rest := [.int o9]) (q0 := 1) (ci := 9) X IW_P k_X9_countFitsAround (c_X9_countFitsAround l D g q_town q_town_houses q_town_halls q_town_posts q_town_blocks q_town_kinds q_town_posts_cells q_town_posts_tolds f_town_hour f_town_day f_town_prankHouse f_town_bells f_town_echoes f_town_bellPranks f_town_posts_size a_town_posts_cells a_town_posts_tolds a_town_blocks o11 e12) ql_X11_X9_countFitsAround dX11_isWell_34 [1, 6, 7, 8, 9] rfl rfl rfl rfl rfl rfl ⟨Nat.le_of_ble_eq_true rfl, Nat.le_of_ble_eq_true rfl, rfl, rfl, Nat.le_of_ble_eq_true rfl, Nat.le_of_ble_eq_true rfl⟩ (Nat.le_of_ble_eq_true rfl) ?_
      refine z_icmp_ne X 68 dX11_isWell_37 (by decide) h (fun _ h => ?_) (fun _ h => ?_)
      · exact H40 a_ways_steps a_ways_queue a_ways_lows h
      · refine z_iconst X (0 : Int32) dX11_isWell_68 (by decide) ?_
        cases h
        exact z_zretW X hQ hA hr dX11_isWell_69 rfl
