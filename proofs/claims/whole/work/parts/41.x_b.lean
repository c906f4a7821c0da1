def F_X11_tell (p1 : Int32) (p2 : Int32) (f_town_hour : Int32) (f_town_day : Int32) (f_town_prankHouse : Int32) (f_town_bells : Int32) (f_town_echoes : Int32) (f_town_bellPranks : Int32) (f_town_houses_size : Int32) (a_town_houses_cells : Nat → Int32) (a_town_houses_froms : Nat → Int32) (a_town_houses_tos : Nat → Int32) (a_town_houses_rings : Nat → Int32) (a_town_houses_pranks : Nat → Int32) (f_town_halls_size : Int32) (a_town_halls_rows : Nat → Int32) (a_town_halls_firsts : Nat → Int32) (a_town_halls_lasts : Nat → Int32) (f_town_posts_size : Int32) (a_town_posts_cells : Nat → Int32) (a_town_blocks : Nat → Int32) (a_town_kinds : Nat → Int32) (a_town_posts_tolds : Nat → Int32) (f_past_size : Int32) (f_past_next : Int32) (a_past_pool : Nat → TVal) (f_reason_number : Int32) (f_reason_detail : Int32) : Option (Nat × Int32 × (Nat → Int32) × Int32 × Int32 × (Nat → TVal) × Int32 × Int32) :=
  bnd (F_X9_judgeTell p1 p2 f_town_prankHouse f_town_posts_size a_town_posts_tolds a_town_kinds f_reason_number f_reason_detail) (fun o1 => bnd (F_X11_demandFine o1.1) (fun o4 => brn (o4 = 0) (bnd (F_X4_push f_town_hour f_town_day f_town_prankHouse f_town_bells f_town_echoes f_town_bellPranks f_town_houses_size a_town_houses_cells a_town_houses_froms a_town_houses_tos a_town_houses_rings a_town_houses_pranks f_town_halls_size a_town_halls_rows a_town_halls_firsts a_town_halls_lasts f_town_posts_size a_town_posts_cells a_town_posts_tolds a_town_blocks a_town_kinds f_past_size f_past_next a_past_pool) (fun o7 => bnd (F_X5_setTold p1 p2 a_town_posts_tolds) (fun o10 => bnd (F_X9_countFits f_town_posts_size a_town_posts_cells o10 a_town_blocks) (fun o13 => some (0, o13, o10, o7.1, o7.2.1, o7.2.2, o1.2.1, o1.2.2))))) (some (o4, (0 : Int32), a_town_posts_tolds, f_past_size, f_past_next, a_past_pool, o1.2.1, o1.2.2))))
theorem dX11_tell_0 : decode cX11_tell 0 = .ok (.aload_n 0, 1) := by decide +kernel
theorem dX11_tell_1 : decode cX11_tell 1 = .ok (.getfield 10, 3) := by decide +kernel
theorem dX11_tell_4 : decode cX11_tell 4 = .ok (.iload_n 1, 1) := by decide +kernel
theorem dX11_tell_5 : decode cX11_tell 5 = .ok (.iload_n 2, 1) := by decide +kernel
theorem dX11_tell_6 : decode cX11_tell 6 = .ok (.aload_n 0, 1) := by decide +kernel
theorem dX11_tell_7 : decode cX11_tell 7 = .ok (.getfield 36, 3) := by decide +kernel
theorem dX11_tell_10 : decode cX11_tell 10 = .ok (.invokevirtual 210, 3) := by decide +kernel
theorem dX11_tell_13 : decode cX11_tell 13 = .ok (.invokestatic 65, 3) := by decide +kernel
theorem dX11_tell_16 : decode cX11_tell 16 = .ok (.aload_n 0, 1) := by decide +kernel
theorem dX11_tell_17 : decode cX11_tell 17 = .ok (.getfield 29, 3) := by decide +kernel
theorem dX11_tell_20 : decode cX11_tell 20 = .ok (.aload_n 0, 1) := by decide +kernel
theorem dX11_tell_21 : decode cX11_tell 21 = .ok (.getfield 10, 3) := by decide +kernel
theorem dX11_tell_24 : decode cX11_tell 24 = .ok (.invokevirtual 69, 3) := by decide +kernel
theorem dX11_tell_27 : decode cX11_tell 27 = .ok (.aload_n 0, 1) := by decide +kernel
theorem dX11_tell_28 : decode cX11_tell 28 = .ok (.getfield 10, 3) := by decide +kernel
theorem dX11_tell_31 : decode cX11_tell 31 = .ok (.getfield 200, 3) := by decide +kernel
theorem dX11_tell_34 : decode cX11_tell 34 = .ok (.iload_n 1, 1) := by decide +kernel
theorem dX11_tell_35 : decode cX11_tell 35 = .ok (.iload_n 2, 1) := by decide +kernel
theorem dX11_tell_36 : decode cX11_tell 36 = .ok (.invokevirtual 214, 3) := by decide +kernel
theorem dX11_tell_39 : decode cX11_tell 39 = .ok (.aload_n 0, 1) := by decide +kernel
theorem dX11_tell_40 : decode cX11_tell 40 = .ok (.getfield 10, 3) := by decide +kernel
theorem dX11_tell_43 : decode cX11_tell 43 = .ok (.invokevirtual 218, 3) := by decide +kernel
theorem dX11_tell_46 : decode cX11_tell 46 = .ok (.ireturn, 1) := by decide +kernel
theorem k_X11_tell : cardV yX11_tell (Cond.code yX11_tell cX11_tell 3 (some .int)) 2 := ⟨⟨qi_X11_tell, qv_X11_tell⟩, qc_X11_tell, qn_X11, by decide +kernel, by decide +kernel, by decide +kernel⟩
set_option maxHeartbeats 4000000 in
set_option maxRecDepth 100000 in
theorem c_X11_tell (l : Launch) (hfl : l.stackTraces = false) (ak av : Nat → Nat) (aS : Nat) (D : va_G) (g : Nat → ClassId) (ad : Nat → Nat → Nat) (q_this q_town q_ahead q_kept q_past q_reason q_orders q_ways q_sheet q_town_houses q_town_halls q_town_posts q_town_blocks q_town_kinds q_town_houses_cells q_town_houses_froms q_town_houses_tos q_town_houses_rings q_town_houses_pranks q_town_halls_rows q_town_halls_firsts q_town_halls_lasts q_town_posts_cells q_town_posts_tolds q_past_towns : Nat) (p1 p2 : Int32) (f_isKept : Int32) (f_town_hour : Int32) (f_town_day : Int32) (f_town_prankHouse : Int32) (f_town_bells : Int32) (f_town_echoes : Int32) (f_town_bellPranks : Int32) (f_town_houses_size : Int32) (a_town_houses_cells : Nat → Int32) (a_town_houses_froms : Nat → Int32) (a_town_houses_tos : Nat → Int32) (a_town_houses_rings : Nat → Int32) (a_town_houses_pranks : Nat → Int32) (f_town_halls_size : Int32) (a_town_halls_rows : Nat → Int32) (a_town_halls_firsts : Nat → Int32) (a_town_halls_lasts : Nat → Int32) (f_town_posts_size : Int32) (a_town_posts_cells : Nat → Int32) (a_town_posts_tolds : Nat → Int32) (a_town_blocks : Nat → Int32) (a_town_kinds : Nat → Int32) (f_past_size : Int32) (f_past_next : Int32) (a_past_pool : Nat → TVal) (f_reason_number : Int32) (f_reason_detail : Int32) (o : Nat × Int32 × (Nat → Int32) × Int32 × Int32 × (Nat → TVal) × Int32 × Int32) (h : F_X11_tell p1 p2 f_town_hour f_town_day f_town_prankHouse f_town_bells f_town_echoes f_town_bellPranks f_town_houses_size a_town_houses_cells a_town_houses_froms a_town_houses_tos a_town_houses_rings a_town_houses_pranks f_town_halls_size a_town_halls_rows a_town_halls_firsts a_town_halls_lasts f_town_posts_size a_town_posts_cells a_town_blocks a_town_kinds a_town_posts_tolds f_past_size f_past_next a_past_pool f_reason_number f_reason_detail = some o) : MX l yX11_tell (Cond.code yX11_tell cX11_tell 3 (some .int)) { frames := 9, cells := 3, slots := 18, locals := 150 } ak av aS D g [.ref q_this, .int p1, .int p2] ([(q_this, .inr (11, [.ref q_town, .ref q_ahead, .ref q_kept, .int f_isKept, .ref q_past, .ref q_reason, .ref q_orders, .ref q_ways, .ref q_sheet])), (q_town, .inr (9, [.ref q_town_houses, .ref q_town_halls, .ref q_town_posts, .ref q_town_blocks, .ref q_town_kinds, .int f_town_hour, .int f_town_day, .int f_town_prankHouse, .int f_town_bells, .int f_town_echoes, .int f_town_bellPranks])), (q_town_houses, .inr (3, [.int f_town_houses_size, .ref q_town_houses_cells, .ref q_town_houses_froms, .ref q_town_houses_tos, .ref q_town_houses_rings, .ref q_town_houses_pranks])), (q_town_houses_cells, .inl (g 0, 10, .inl a_town_houses_cells)), (q_town_houses_froms, .inl (g 0, 10, .inl a_town_houses_froms)), (q_town_houses_tos, .inl (g 0, 10, .inl a_town_houses_tos)), (q_town_houses_rings, .inl (g 0, 10, .inl a_town_houses_rings)), (q_town_houses_pranks, .inl (g 0, 10, .inl a_town_houses_pranks)), (q_town_halls, .inr (2, [.int f_town_halls_size, .ref q_town_halls_rows, .ref q_town_halls_firsts, .ref q_town_halls_lasts])), (q_town_halls_rows, .inl (g 0, 4, .inl a_town_halls_rows)), (q_town_halls_firsts, .inl (g 0, 4, .inl a_town_halls_firsts)), (q_town_halls_lasts, .inl (g 0, 4, .inl a_town_halls_lasts)), (q_town_posts, .inr (6, [.int f_town_posts_size, .ref q_town_posts_cells, .ref q_town_posts_tolds])), (q_town_posts_cells, .inl (g 0, 4, .inl a_town_posts_cells)), (q_town_posts_tolds, .inl (g 0, 4, .inl a_town_posts_tolds)), (q_town_blocks, .inl (g 0, 64, .inl a_town_blocks)), (q_town_kinds, .inl (g 0, 4, .inl a_town_kinds)), (q_past, .inr (5, [.ref q_past_towns, .int f_past_size, .int f_past_next])), (q_past_towns, .inl (g 4, 8, .inr (.inr (.inr (.inr (twA ad)))))), (q_reason, .inr (7, [.int f_reason_number, .int f_reason_detail]))] ++ poolW g ad a_past_pool) o.1 (some (.int o.2.1)) ([(q_this, .inr (11, [.ref q_town, .ref q_ahead, .ref q_kept, .int f_isKept, .ref q_past, .ref q_reason, .ref q_orders, .ref q_ways, .ref q_sheet])), (q_town, .inr (9, [.ref q_town_houses, .ref q_town_halls, .ref q_town_posts, .ref q_town_blocks, .ref q_town_kinds, .int f_town_hour, .int f_town_day, .int f_town_prankHouse, .int f_town_bells, .int f_town_echoes, .int f_town_bellPranks])), (q_town_houses, .inr (3, [.int f_town_houses_size, .ref q_town_houses_cells, .ref q_town_houses_froms, .ref q_town_houses_tos, .ref q_town_houses_rings, .ref q_town_houses_pranks])), (q_town_houses_cells, .inl (g 0, 10, .inl a_town_houses_cells)), (q_town_houses_froms, .inl (g 0, 10, .inl a_town_houses_froms)), (q_town_houses_tos, .inl (g 0, 10, .inl a_town_houses_tos)), (q_town_houses_rings, .inl (g 0, 10, .inl a_town_houses_rings)), (q_town_houses_pranks, .inl (g 0, 10, .inl a_town_houses_pranks)), (q_town_halls, .inr (2, [.int f_town_halls_size, .ref q_town_halls_rows, .ref q_town_halls_firsts, .ref q_town_halls_lasts])), (q_town_halls_rows, .inl (g 0, 4, .inl a_town_halls_rows)), (q_town_halls_firsts, .inl (g 0, 4, .inl a_town_halls_firsts)), (q_town_halls_lasts, .inl (g 0, 4, .inl a_town_halls_lasts)), (q_town_posts, .inr (6, [.int f_town_posts_size, .ref q_town_posts_cells, .ref q_town_posts_tolds])), (q_town_posts_cells, .inl (g 0, 4, .inl a_town_posts_cells)), (q_town_posts_tolds, .inl (g 0, 4, .inl o.2.2.1)), (q_town_blocks, .inl (g 0, 64, .inl a_town_blocks)), (q_town_kinds, .inl (g 0, 4, .inl a_town_kinds)), (q_past, .inr (5, [.ref q_past_towns, .int o.2.2.2.1, .int o.2.2.2.2.1])), (q_past_towns, .inl (g 4, 8, .inr (.inr (.inr (.inr (twA ad)))))), (q_reason, .inr (7, [.int o.2.2.2.2.2.2.1, .int o.2.2.2.2.2.2.2]))] ++ poolW g ad o.2.2.2.2.2.1) 3 18 := by
  refine z_ex_start (by decide) (Nat.le_of_ble_eq_true rfl) ?_
  intro p e s m args below meth c Q A X hr hE hA hno hQ
  refine z_lv (lv' := [(0, .ref q_this), (1, .int p1), (2, .int p2)]) rfl ?_
  refine z_aload_n X 0 dX11_tell_0 rfl rfl ?_
  refine z_get (q0 := 0) (k := 0) (ci := 11) X IW_P iw_X11 rfl qf_X11_X11_town (by decide) dX11_tell_1 rfl rfl ?_
  refine z_iload_n X 1 dX11_tell_4 rfl rfl ?_
  refine z_iload_n X 2 dX11_tell_5 rfl rfl ?_
  refine z_aload_n X 0 dX11_tell_6 rfl rfl ?_
  refine z_get (q0 := 0) (k := 5) (ci := 11) X IW_P iw_X11 rfl qf_X11_X11_reason (by decide) dX11_tell_7 rfl rfl ?_
  obtain ⟨o1, e2, h⟩ := bnd_p h
  have f3 := bk_app (E := [(q_this, .inr (11, [.ref q_town, .ref q_ahead, .ref q_kept, .int f_isKept, .ref q_past, .ref q_reason, .ref q_orders, .ref q_ways, .ref q_sheet])), (q_town, .inr (9, [.ref q_town_houses, .ref q_town_halls, .ref q_town_posts, .ref q_town_blocks, .ref q_town_kinds, .int f_town_hour, .int f_town_day, .int f_town_prankHouse, .int f_town_bells, .int f_town_echoes, .int f_town_bellPranks])), (q_town_houses, .inr (3, [.int f_town_houses_size, .ref q_town_houses_cells, .ref q_town_houses_froms, .ref q_town_houses_tos, .ref q_town_houses_rings, .ref q_town_houses_pranks])), (q_town_houses_cells, .inl (g 0, 10, .inl a_town_houses_cells)), (q_town_houses_froms, .inl (g 0, 10, .inl a_town_houses_froms)), (q_town_houses_tos, .inl (g 0, 10, .inl a_town_houses_tos)), (q_town_houses_rings, .inl (g 0, 10, .inl a_town_houses_rings)), (q_town_houses_pranks, .inl (g 0, 10, .inl a_town_houses_pranks)), (q_town_halls, .inr (2, [.int f_town_halls_size, .ref q_town_halls_rows, .ref q_town_halls_firsts, .ref q_town_halls_lasts])), (q_town_halls_rows, .inl (g 0, 4, .inl a_town_halls_rows)), (q_town_halls_firsts, .inl (g 0, 4, .inl a_town_halls_firsts)), (q_town_halls_lasts, .inl (g 0, 4, .inl a_town_halls_lasts)), (q_town_posts, .inr (6, [.int f_town_posts_size, .ref q_town_posts_cells, .ref q_town_posts_tolds])), (q_town_posts_cells, .inl (g 0, 4, .inl a_town_posts_cells)), (q_town_posts_tolds, .inl (g 0, 4, .inl a_town_posts_tolds)), (q_town_blocks, .inl (g 0, 64, .inl a_town_blocks)), (q_town_kinds, .inl (g 0, 4, .inl a_town_kinds)), (q_past, .inr (5, [.ref q_past_towns, .int f_past_size, .int f_past_next])), (q_past_towns, .inl (g 4, 8, .inr (.inr (.inr (.inr (twA ad)))))), (q_reason, .inr (7, [.int f_reason_number, .int f_reason_detail]))]) (E' := [(q_this, .inr (11, [.ref q_town, .ref q_ahead, .ref q_kept, .int f_isKept, .ref q_past, .ref q_reason, .ref q_orders, .ref q_ways, .ref q_sheet])), (q_town, .inr (9, [.ref q_town_houses, .ref q_town_halls, .ref q_town_posts, .ref q_town_blocks, .ref q_town_kinds, .int f_town_hour, .int f_town_day, .int f_town_prankHouse, .int f_town_bells, .int f_town_echoes, .int f_town_bellPranks])), (q_town_houses, .inr (3, [.int f_town_houses_size, .ref q_town_houses_cells, .ref q_town_houses_froms, .ref q_town_houses_tos, .ref q_town_houses_rings, .ref q_town_houses_pranks])), (q_town_houses_cells, .inl (g 0, 10, .inl a_town_houses_cells)), (q_town_houses_froms, .inl (g 0, 10, .inl a_town_houses_froms)), (q_town_houses_tos, .inl (g 0, 10, .inl a_town_houses_tos)), (q_town_houses_rings, .inl (g 0, 10, .inl a_town_houses_rings)), (q_town_houses_pranks, .inl (g 0, 10, .inl a_town_houses_pranks)), (q_town_halls, .inr (2, [.int f_town_halls_size, .ref q_town_halls_rows, .ref q_town_halls_firsts, .ref q_town_halls_lasts])), (q_town_halls_rows, .inl (g 0, 4, .inl a_town_halls_rows)), (q_town_halls_firsts, .inl (g 0, 4, .inl a_town_halls_firsts)), (q_town_halls_lasts, .inl (g 0, 4, .inl a_town_halls_lasts)), (q_town_posts, .inr (6, [.int f_town_posts_size, .ref q_town_posts_cells, .ref q_town_posts_tolds])), (q_town_posts_cells, .inl (g 0, 4, .inl a_town_posts_cells)), (q_town_posts_tolds, .inl (g 0, 4, .inl a_town_posts_tolds)), (q_town_blocks, .inl (g 0, 64, .inl a_town_blocks)), (q_town_kinds, .inl (g 0, 4, .inl a_town_kinds)), (q_past, .inr (5, [.ref q_past_towns, .int f_past_size, .int f_past_next])), (q_past_towns, .inl (g 4, 8, .inr (.inr (.inr (.inr (twA ad)))))), (q_reason, .inr (7, [.int o1.2.1, .int o1.2.2]))]) (wc := [(q_town, .inr (9, [.ref q_town_houses, .ref q_town_halls, .ref q_town_posts, .ref q_town_blocks, .ref q_town_kinds, .int f_town_hour, .int f_town_day, .int f_town_prankHouse, .int f_town_bells, .int f_town_echoes, .int f_town_bellPranks])), (q_town_posts, .inr (6, [.int f_town_posts_size, .ref q_town_posts_cells, .ref q_town_posts_tolds])), (q_town_posts_tolds, .inl (g 0, 4, .inl a_town_posts_tolds)), (q_town_kinds, .inl (g 0, 4, .inl a_town_kinds)), (q_reason, .inr (7, [.int f_reason_number, .int f_reason_detail]))]) (wc' := [(q_town, .inr (9, [.ref q_town_houses, .ref q_town_halls, .ref q_town_posts, .ref q_town_blocks, .ref q_town_kinds, .int f_town_hour, .int f_town_day, .int f_town_prankHouse, .int f_town_bells, .int f_town_echoes, .int f_town_bellPranks])), (q_town_posts, .inr (6, [.int f_town_posts_size, .ref q_town_posts_cells, .ref q_town_posts_tolds])), (q_town_posts_tolds, .inl (g 0, 4, .inl a_town_posts_tolds)), (q_town_kinds, .inl (g 0, 4, .inl a_town_kinds)), (q_reason, .inr (7, [.int o1.2.1, .int o1.2.2]))]) (wr := [(q_this, .inr (11, [.ref q_town, .ref q_ahead, .ref q_kept, .int f_isKept, .ref q_past, .ref q_reason, .ref q_orders, .ref q_ways, .ref q_sheet])), (q_town_houses, .inr (3, [.int f_town_houses_size, .ref q_town_houses_cells, .ref q_town_houses_froms, .ref q_town_houses_tos, .ref q_town_houses_rings, .ref q_town_houses_pranks])), (q_town_houses_cells, .inl (g 0, 10, .inl a_town_houses_cells)), (q_town_houses_froms, .inl (g 0, 10, .inl a_town_houses_froms)), (q_town_houses_tos, .inl (g 0, 10, .inl a_town_houses_tos)), (q_town_houses_rings, .inl (g 0, 10, .inl a_town_houses_rings)), (q_town_houses_pranks, .inl (g 0, 10, .inl a_town_houses_pranks)), (q_town_halls, .inr (2, [.int f_town_halls_size, .ref q_town_halls_rows, .ref q_town_halls_firsts, .ref q_town_halls_lasts])), (q_town_halls_rows, .inl (g 0, 4, .inl a_town_halls_rows)), (q_town_halls_firsts, .inl (g 0, 4, .inl a_town_halls_firsts)), (q_town_halls_lasts, .inl (g 0, 4, .inl a_town_halls_lasts)), (q_town_posts_cells, .inl (g 0, 4, .inl a_town_posts_cells)), (q_town_blocks, .inl (g 0, 64, .inl a_town_blocks)), (q_past, .inr (5, [.ref q_past_towns, .int f_past_size, .int f_past_next])), (q_past_towns, .inl (g 4, 8, .inr (.inr (.inr (.inr (twA ad))))))]) (X := poolW g ad a_past_pool) (perm_of (n := 20) [1, 12, 14, 16, 19] [0, 2, 3, 4, 5, 6, 7, 8, 9, 10, 11, 13, 15, 17, 18] rfl rfl rfl (by decide +kernel)) (perm_of (n := 20) [1, 12, 14, 16, 19] [0, 2, 3, 4, 5, 6, 7, 8, 9, 10, 11, 13, 15, 17, 18] rfl rfl rfl (by decide +kernel)) ((rfl : ([(q_town, .inr (9, [.ref q_town_houses, .ref q_town_halls, .ref q_town_posts, .ref q_town_blocks, .ref q_town_kinds, .int f_town_hour, .int f_town_day, .int f_town_prankHouse, .int f_town_bells, .int f_town_echoes, .int f_town_bellPranks])), (q_town_posts, .inr (6, [.int f_town_posts_size, .ref q_town_posts_cells, .ref q_town_posts_tolds])), (q_town_posts_tolds, .inl (g 0, 4, .inl a_town_posts_tolds)), (q_town_kinds, .inl (g 0, 4, .inl a_town_kinds)), (q_reason, .inr (7, [.int f_reason_number, .int f_reason_detail]))] : va_W).map Prod.fst = [q_town, q_town_posts, q_town_posts_tolds, q_town_kinds, q_reason]).trans (rfl : ([(q_town, .inr (9, [.ref q_town_houses, .ref q_town_halls, .ref q_town_posts, .ref q_town_blocks, .ref q_town_kinds, .int f_town_hour, .int f_town_day, .int f_town_prankHouse, .int f_town_bells, .int f_town_echoes, .int f_town_bellPranks])), (q_town_posts, .inr (6, [.int f_town_posts_size, .ref q_town_posts_cells, .ref q_town_posts_tolds])), (q_town_posts_tolds, .inl (g 0, 4, .inl a_town_posts_tolds)), (q_town_kinds, .inl (g 0, 4, .inl a_town_kinds)), (q_reason, .inr (7, [.int o1.2.1, .int o1.2.2]))] : va_W).map Prod.fst = [q_town, q_town_posts, q_town_posts_tolds, q_town_kinds, q_reason]).symm)
  refine z_wgV (rest := []) (q0 := 1) (ci := 9) (ws' := ([(q_this, .inr (11, [.ref q_town, .ref q_ahead, .ref q_kept, .int f_isKept, .ref q_past, .ref q_reason, .ref q_orders, .ref q_ways, .ref q_sheet])), (q_town, .inr (9, [.ref q_town_houses, .ref q_town_halls, .ref q_town_posts, .ref q_town_blocks, .ref q_town_kinds, .int f_town_hour, .int f_town_day, .int f_town_prankHouse, .int f_town_bells, .int f_town_echoes, .int f_town_bellPranks])), (q_town_houses, .inr (3, [.int f_town_houses_size, .ref q_town_houses_cells, .ref q_town_houses_froms, .ref q_town_houses_tos, .ref q_town_houses_rings, .ref q_town_houses_pranks])), (q_town_houses_cells, .inl (g 0, 10, .inl a_town_houses_cells)), (q_town_houses_froms, .inl (g 0, 10, .inl a_town_houses_froms)), (q_town_houses_tos, .inl (g 0, 10, .inl a_town_houses_tos)), (q_town_houses_rings, .inl (g 0, 10, .inl a_town_houses_rings)), (q_town_houses_pranks, .inl (g 0, 10, .inl a_town_houses_pranks)), (q_town_halls, .inr (2, [.int f_town_halls_size, .ref q_town_halls_rows, .ref q_town_halls_firsts, .ref q_town_halls_lasts])), (q_town_halls_rows, .inl (g 0, 4, .inl a_town_halls_rows)), (q_town_halls_firsts, .inl (g 0, 4, .inl a_town_halls_firsts)), (q_town_halls_lasts, .inl (g 0, 4, .inl a_town_halls_lasts)), (q_town_posts, .inr (6, [.int f_town_posts_size, .ref q_town_posts_cells, .ref q_town_posts_tolds])), (q_town_posts_cells, .inl (g 0, 4, .inl a_town_posts_cells)), (q_town_posts_tolds, .inl (g 0, 4, .inl a_town_posts_tolds)), (q_town_blocks, .inl (g 0, 64, .inl a_town_blocks)), (q_town_kinds, .inl (g 0, 4, .inl a_town_kinds)), (q_past, .inr (5, [.ref q_past_towns, .int f_past_size, .int f_past_next])), (q_past_towns, .inl (g 4, 8, .inr (.inr (.inr (.inr (twA ad)))))), (q_reason, .inr (7, [.int o1.2.1, .int o1.2.2]))] ++ poolW g ad a_past_pool)) X k_X9_judgeTell (c_X9_judgeTell l D g q_town q_town_houses q_town_halls q_town_posts q_town_blocks q_town_kinds q_town_posts_cells q_town_posts_tolds q_reason p1 p2 f_town_hour f_town_day f_town_prankHouse f_town_bells f_town_echoes f_town_bellPranks f_town_posts_size a_town_posts_tolds a_town_kinds f_reason_number f_reason_detail o1 e2) ql_X11_X9_judgeTell dX11_tell_10 f3.1 f3.2 rfl rfl rfl rfl rfl ⟨Nat.le_of_ble_eq_true rfl, Nat.le_of_ble_eq_true rfl, rfl, rfl, Nat.le_of_ble_eq_true rfl, Nat.le_of_ble_eq_true rfl⟩ (Nat.le_of_ble_eq_true rfl) ?_
  obtain ⟨o4, e5, h⟩ := bnd_p h
  refine z_exS (rest := []) (ws' := ([(q_this, .inr (11, [.ref q_town, .ref q_ahead, .ref q_kept, .int f_isKept, .ref q_past, .ref q_reason, .ref q_orders, .ref q_ways, .ref q_sheet])), (q_town, .inr (9, [.ref q_town_houses, .ref q_town_halls, .ref q_town_posts, .ref q_town_blocks, .ref q_town_kinds, .int f_town_hour, .int f_town_day, .int f_town_prankHouse, .int f_town_bells, .int f_town_echoes, .int f_town_bellPranks])), (q_town_houses, .inr (3, [.int f_town_houses_size, .ref q_town_houses_cells, .ref q_town_houses_froms, .ref q_town_houses_tos, .ref q_town_houses_rings, .ref q_town_houses_pranks])), (q_town_houses_cells, .inl (g 0, 10, .inl a_town_houses_cells)), (q_town_houses_froms, .inl (g 0, 10, .inl a_town_houses_froms)), (q_town_houses_tos, .inl (g 0, 10, .inl a_town_houses_tos)), (q_town_houses_rings, .inl (g 0, 10, .inl a_town_houses_rings)), (q_town_houses_pranks, .inl (g 0, 10, .inl a_town_houses_pranks)), (q_town_halls, .inr (2, [.int f_town_halls_size, .ref q_town_halls_rows, .ref q_town_halls_firsts, .ref q_town_halls_lasts])), (q_town_halls_rows, .inl (g 0, 4, .inl a_town_halls_rows)), (q_town_halls_firsts, .inl (g 0, 4, .inl a_town_halls_firsts)), (q_town_halls_lasts, .inl (g 0, 4, .inl a_town_halls_lasts)), (q_town_posts, .inr (6, [.int f_town_posts_size, .ref q_town_posts_cells, .ref q_town_posts_tolds])), (q_town_posts_cells, .inl (g 0, 4, .inl a_town_posts_cells)), (q_town_posts_tolds, .inl (g 0, 4, .inl a_town_posts_tolds)), (q_town_blocks, .inl (g 0, 64, .inl a_town_blocks)), (q_town_kinds, .inl (g 0, 4, .inl a_town_kinds)), (q_past, .inr (5, [.ref q_past_towns, .int f_past_size, .int f_past_next])), (q_past_towns, .inl (g 4, 8, .inr (.inr (.inr (.inr (twA ad)))))), (q_reason, .inr (7, [.int o1.2.1, .int o1.2.2]))] ++ poolW g ad a_past_pool)) X hE hA k_X11_demandFine (c_X11_demandFine l hfl ak av aS D g o1.1 o4 e5) ql_X11_X11_demandFine dX11_tell_13 bkc_nil bk_nil rfl rfl ⟨Nat.le_of_ble_eq_true rfl, Nat.le_of_ble_eq_true rfl, rfl, rfl, Nat.le_of_ble_eq_true rfl, Nat.le_of_ble_eq_true rfl⟩ (Nat.le_of_ble_eq_true rfl) (fun x6 => ?_) (fun x6 => ?_)
  · have h := brn_t h x6
    refine z_aload_n X 0 dX11_tell_16 rfl rfl ?_
    refine z_get (q0 := 0) (k := 4) (ci := 11) X IW_P iw_X11 rfl qf_X11_X11_past (by decide) dX11_tell_17 rfl rfl ?_
    refine z_aload_n X 0 dX11_tell_20 rfl rfl ?_
    refine z_get (q0 := 0) (k := 0) (ci := 11) X IW_P iw_X11 rfl qf_X11_X11_town (by decide) dX11_tell_21 rfl rfl ?_
    obtain ⟨o7, e8, h⟩ := bnd_p h
    have f9 := bk_appP (E := [(q_this, .inr (11, [.ref q_town, .ref q_ahead, .ref q_kept, .int f_isKept, .ref q_past, .ref q_reason, .ref q_orders, .ref q_ways, .ref q_sheet])), (q_town, .inr (9, [.ref q_town_houses, .ref q_town_halls, .ref q_town_posts, .ref q_town_blocks, .ref q_town_kinds, .int f_town_hour, .int f_town_day, .int f_town_prankHouse, .int f_town_bells, .int f_town_echoes, .int f_town_bellPranks])), (q_town_houses, .inr (3, [.int f_town_houses_size, .ref q_town_houses_cells, .ref q_town_houses_froms, .ref q_town_houses_tos, .ref q_town_houses_rings, .ref q_town_houses_pranks])), (q_town_houses_cells, .inl (g 0, 10, .inl a_town_houses_cells)), (q_town_houses_froms, .inl (g 0, 10, .inl a_town_houses_froms)), (q_town_houses_tos, .inl (g 0, 10, .inl a_town_houses_tos)), (q_town_houses_rings, .inl (g 0, 10, .inl a_town_houses_rings)), (q_town_houses_pranks, .inl (g 0, 10, .inl a_town_houses_pranks)), (q_town_halls, .inr (2, [.int f_town_halls_size, .ref q_town_halls_rows, .ref q_town_halls_firsts, .ref q_town_halls_lasts])), (q_town_halls_rows, .inl (g 0, 4, .inl a_town_halls_rows)), (q_town_halls_firsts, .inl (g 0, 4, .inl a_town_halls_firsts)), (q_town_halls_lasts, .inl (g 0, 4, .inl a_town_halls_lasts)), (q_town_posts, .inr (6, [.int f_town_posts_size, .ref q_town_posts_cells, .ref q_town_posts_tolds])), (q_town_posts_cells, .inl (g 0, 4, .inl a_town_posts_cells)), (q_town_posts_tolds, .inl (g 0, 4, .inl a_town_posts_tolds)), (q_town_blocks, .inl (g 0, 64, .inl a_town_blocks)), (q_town_kinds, .inl (g 0, 4, .inl a_town_kinds)), (q_past, .inr (5, [.ref q_past_towns, .int f_past_size, .int f_past_next])), (q_past_towns, .inl (g 4, 8, .inr (.inr (.inr (.inr (twA ad)))))), (q_reason, .inr (7, [.int o1.2.1, .int o1.2.2]))]) (E' := [(q_this, .inr (11, [.ref q_town, .ref q_ahead, .ref q_kept, .int f_isKept, .ref q_past, .ref q_reason, .ref q_orders, .ref q_ways, .ref q_sheet])), (q_town, .inr (9, [.ref q_town_houses, .ref q_town_halls, .ref q_town_posts, .ref q_town_blocks, .ref q_town_kinds, .int f_town_hour, .int f_town_day, .int f_town_prankHouse, .int f_town_bells, .int f_town_echoes, .int f_town_bellPranks])), (q_town_houses, .inr (3, [.int f_town_houses_size, .ref q_town_houses_cells, .ref q_town_houses_froms, .ref q_town_houses_tos, .ref q_town_houses_rings, .ref q_town_houses_pranks])), (q_town_houses_cells, .inl (g 0, 10, .inl a_town_houses_cells)), (q_town_houses_froms, .inl (g 0, 10, .inl a_town_houses_froms)), (q_town_houses_tos, .inl (g 0, 10, .inl a_town_houses_tos)), (q_town_houses_rings, .inl (g 0, 10, .inl a_town_houses_rings)), (q_town_houses_pranks, .inl (g 0, 10, .inl a_town_houses_pranks)), (q_town_halls, .inr (2, [.int f_town_halls_size, .ref q_town_halls_rows, .ref q_town_halls_firsts, .ref q_town_halls_lasts])), (q_town_halls_rows, .inl (g 0, 4, .inl a_town_halls_rows)), (q_town_halls_firsts, .inl (g 0, 4, .inl a_town_halls_firsts)), (q_town_halls_lasts, .inl (g 0, 4, .inl a_town_halls_lasts)), (q_town_posts, .inr (6, [.int f_town_posts_size, .ref q_town_posts_cells, .ref q_town_posts_tolds])), (q_town_posts_cells, .inl (g 0, 4, .inl a_town_posts_cells)), (q_town_posts_tolds, .inl (g 0, 4, .inl a_town_posts_tolds)), (q_town_blocks, .inl (g 0, 64, .inl a_town_blocks)), (q_town_kinds, .inl (g 0, 4, .inl a_town_kinds)), (q_past, .inr (5, [.ref q_past_towns, .int o7.1, .int o7.2.1])), (q_past_towns, .inl (g 4, 8, .inr (.inr (.inr (.inr (twA ad)))))), (q_reason, .inr (7, [.int o1.2.1, .int o1.2.2]))]) (wc := [(q_past, .inr (5, [.ref q_past_towns, .int f_past_size, .int f_past_next])), (q_past_towns, .inl (g 4, 8, .inr (.inr (.inr (.inr (twA ad)))))), (q_town, .inr (9, [.ref q_town_houses, .ref q_town_halls, .ref q_town_posts, .ref q_town_blocks, .ref q_town_kinds, .int f_town_hour, .int f_town_day, .int f_town_prankHouse, .int f_town_bells, .int f_town_echoes, .int f_town_bellPranks])), (q_town_houses, .inr (3, [.int f_town_houses_size, .ref q_town_houses_cells, .ref q_town_houses_froms, .ref q_town_houses_tos, .ref q_town_houses_rings, .ref q_town_houses_pranks])), (q_town_houses_cells, .inl (g 0, 10, .inl a_town_houses_cells)), (q_town_houses_froms, .inl (g 0, 10, .inl a_town_houses_froms)), (q_town_houses_tos, .inl (g 0, 10, .inl a_town_houses_tos)), (q_town_houses_rings, .inl (g 0, 10, .inl a_town_houses_rings)), (q_town_houses_pranks, .inl (g 0, 10, .inl a_town_houses_pranks)), (q_town_halls, .inr (2, [.int f_town_halls_size, .ref q_town_halls_rows, .ref q_town_halls_firsts, .ref q_town_halls_lasts])), (q_town_halls_rows, .inl (g 0, 4, .inl a_town_halls_rows)), (q_town_halls_firsts, .inl (g 0, 4, .inl a_town_halls_firsts)), (q_town_halls_lasts, .inl (g 0, 4, .inl a_town_halls_lasts)), (q_town_posts, .inr (6, [.int f_town_posts_size, .ref q_town_posts_cells, .ref q_town_posts_tolds])), (q_town_posts_cells, .inl (g 0, 4, .inl a_town_posts_cells)), (q_town_posts_tolds, .inl (g 0, 4, .inl a_town_posts_tolds)), (q_town_blocks, .inl (g 0, 64, .inl a_town_blocks)), (q_town_kinds, .inl (g 0, 4, .inl a_town_kinds))]) (wc' := [(q_past, .inr (5, [.ref q_past_towns, .int o7.1, .int o7.2.1])), (q_past_towns, .inl (g 4, 8, .inr (.inr (.inr (.inr (twA ad)))))), (q_town, .inr (9, [.ref q_town_houses, .ref q_town_halls, .ref q_town_posts, .ref q_town_blocks, .ref q_town_kinds, .int f_town_hour, .int f_town_day, .int f_town_prankHouse, .int f_town_bells, .int f_town_echoes, .int f_town_bellPranks])), (q_town_houses, .inr (3, [.int f_town_houses_size, .ref q_town_houses_cells, .ref q_town_houses_froms, .ref q_town_houses_tos, .ref q_town_houses_rings, .ref q_town_houses_pranks])), (q_town_houses_cells, .inl (g 0, 10, .inl a_town_houses_cells)), (q_town_houses_froms, .inl (g 0, 10, .inl a_town_houses_froms)), (q_town_houses_tos, .inl (g 0, 10, .inl a_town_houses_tos)), (q_town_houses_rings, .inl (g 0, 10, .inl a_town_houses_rings)), (q_town_houses_pranks, .inl (g 0, 10, .inl a_town_houses_pranks)), (q_town_halls, .inr (2, [.int f_town_halls_size, .ref q_town_halls_rows, .ref q_town_halls_firsts, .ref q_town_halls_lasts])), (q_town_halls_rows, .inl (g 0, 4, .inl a_town_halls_rows)), (q_town_halls_firsts, .inl (g 0, 4, .inl a_town_halls_firsts)), (q_town_halls_lasts, .inl (g 0, 4, .inl a_town_halls_lasts)), (q_town_posts, .inr (6, [.int f_town_posts_size, .ref q_town_posts_cells, .ref q_town_posts_tolds])), (q_town_posts_cells, .inl (g 0, 4, .inl a_town_posts_cells)), (q_town_posts_tolds, .inl (g 0, 4, .inl a_town_posts_tolds)), (q_town_blocks, .inl (g 0, 64, .inl a_town_blocks)), (q_town_kinds, .inl (g 0, 4, .inl a_town_kinds))]) (wr := [(q_this, .inr (11, [.ref q_town, .ref q_ahead, .ref q_kept, .int f_isKept, .ref q_past, .ref q_reason, .ref q_orders, .ref q_ways, .ref q_sheet])), (q_reason, .inr (7, [.int o1.2.1, .int o1.2.2]))]) (X := poolW g ad a_past_pool) (X' := poolW g ad o7.2.2) (perm_of (n := 20) [17, 18, 1, 2, 3, 4, 5, 6, 7, 8, 9, 10, 11, 12, 13, 14, 15, 16] [0, 19] rfl rfl rfl (by decide +kernel)) (perm_of (n := 20) [17, 18, 1, 2, 3, 4, 5, 6, 7, 8, 9, 10, 11, 12, 13, 14, 15, 16] [0, 19] rfl rfl rfl (by decide +kernel)) ((rfl : ([(q_past, .inr (5, [.ref q_past_towns, .int f_past_size, .int f_past_next])), (q_past_towns, .inl (g 4, 8, .inr (.inr (.inr (.inr (twA ad)))))), (q_town, .inr (9, [.ref q_town_houses, .ref q_town_halls, .ref q_town_posts, .ref q_town_blocks, .ref q_town_kinds, .int f_town_hour, .int f_town_day, .int f_town_prankHouse, .int f_town_bells, .int f_town_echoes, .int f_town_bellPranks])), (q_town_houses, .inr (3, [.int f_town_houses_size, .ref q_town_houses_cells, .ref q_town_houses_froms, .ref q_town_houses_tos, .ref q_town_houses_rings, .ref q_town_houses_pranks])), (q_town_houses_cells, .inl (g 0, 10, .inl a_town_houses_cells)), (q_town_houses_froms, .inl (g 0, 10, .inl a_town_houses_froms)), (q_town_houses_tos, .inl (g 0, 10, .inl a_town_houses_tos)), (q_town_houses_rings, .inl (g 0, 10, .inl a_town_houses_rings)), (q_town_houses_pranks, .inl (g 0, 10, .inl a_town_houses_pranks)), (q_town_halls, .inr (2, [.int f_town_halls_size, .ref q_town_halls_rows, .ref q_town_halls_firsts, .ref q_town_halls_lasts])), (q_town_halls_rows, .inl (g 0, 4, .inl a_town_halls_rows)), (q_town_halls_firsts, .inl (g 0, 4, .inl a_town_halls_firsts)), (q_town_halls_lasts, .inl (g 0, 4, .inl a_town_halls_lasts)), (q_town_posts, .inr (6, [.int f_town_posts_size, .ref q_town_posts_cells, .ref q_town_posts_tolds])), (q_town_posts_cells, .inl (g 0, 4, .inl a_town_posts_cells)), (q_town_posts_tolds, .inl (g 0, 4, .inl a_town_posts_tolds)), (q_town_blocks, .inl (g 0, 64, .inl a_town_blocks)), (q_town_kinds, .inl (g 0, 4, .inl a_town_kinds))] : va_W).map Prod.fst = [q_past, q_past_towns, q_town, q_town_houses, q_town_houses_cells, q_town_houses_froms, q_town_houses_tos, q_town_houses_rings, q_town_houses_pranks, q_town_halls, q_town_halls_rows, q_town_halls_firsts, q_town_halls_lasts, q_town_posts, q_town_posts_cells, q_town_posts_tolds, q_town_blocks, q_town_kinds]).trans (rfl : ([(q_past, .inr (5, [.ref q_past_towns, .int o7.1, .int o7.2.1])), (q_past_towns, .inl (g 4, 8, .inr (.inr (.inr (.inr (twA ad)))))), (q_town, .inr (9, [.ref q_town_houses, .ref q_town_halls, .ref q_town_posts, .ref q_town_blocks, .ref q_town_kinds, .int f_town_hour, .int f_town_day, .int f_town_prankHouse, .int f_town_bells, .int f_town_echoes, .int f_town_bellPranks])), (q_town_houses, .inr (3, [.int f_town_houses_size, .ref q_town_houses_cells, .ref q_town_houses_froms, .ref q_town_houses_tos, .ref q_town_houses_rings, .ref q_town_houses_pranks])), (q_town_houses_cells, .inl (g 0, 10, .inl a_town_houses_cells)), (q_town_houses_froms, .inl (g 0, 10, .inl a_town_houses_froms)), (q_town_houses_tos, .inl (g 0, 10, .inl a_town_houses_tos)), (q_town_houses_rings, .inl (g 0, 10, .inl a_town_houses_rings)), (q_town_houses_pranks, .inl (g 0, 10, .inl a_town_houses_pranks)), (q_town_halls, .inr (2, [.int f_town_halls_size, .ref q_town_halls_rows, .ref q_town_halls_firsts, .ref q_town_halls_lasts])), (q_town_halls_rows, .inl (g 0, 4, .inl a_town_halls_rows)), (q_town_halls_firsts, .inl (g 0, 4, .inl a_town_halls_firsts)), (q_town_halls_lasts, .inl (g 0, 4, .inl a_town_halls_lasts)), (q_town_posts, .inr (6, [.int f_town_posts_size, .ref q_town_posts_cells, .ref q_town_posts_tolds])), (q_town_posts_cells, .inl (g 0, 4, .inl a_town_posts_cells)), (q_town_posts_tolds, .inl (g 0, 4, .inl a_town_posts_tolds)), (q_town_blocks, .inl (g 0, 64, .inl a_town_blocks)), (q_town_kinds, .inl (g 0, 4, .inl a_town_kinds))] : va_W).map Prod.fst = [q_past, q_past_towns, q_town, q_town_houses, q_town_houses_cells, q_town_houses_froms, q_town_houses_tos, q_town_houses_rings, q_town_houses_pranks, q_town_halls, q_town_halls_rows, q_town_halls_firsts, q_town_halls_lasts, q_town_posts, q_town_posts_cells, q_town_posts_tolds, q_town_blocks, q_town_kinds]).symm) poolW_fst
    refine z_wgV (rest := []) (q0 := 17) (ci := 5) (ws' := ([(q_this, .inr (11, [.ref q_town, .ref q_ahead, .ref q_kept, .int f_isKept, .ref q_past, .ref q_reason, .ref q_orders, .ref q_ways, .ref q_sheet])), (q_town, .inr (9, [.ref q_town_houses, .ref q_town_halls, .ref q_town_posts, .ref q_town_blocks, .ref q_town_kinds, .int f_town_hour, .int f_town_day, .int f_town_prankHouse, .int f_town_bells, .int f_town_echoes, .int f_town_bellPranks])), (q_town_houses, .inr (3, [.int f_town_houses_size, .ref q_town_houses_cells, .ref q_town_houses_froms, .ref q_town_houses_tos, .ref q_town_houses_rings, .ref q_town_houses_pranks])), (q_town_houses_cells, .inl (g 0, 10, .inl a_town_houses_cells)), (q_town_houses_froms, .inl (g 0, 10, .inl a_town_houses_froms)), (q_town_houses_tos, .inl (g 0, 10, .inl a_town_houses_tos)), (q_town_houses_rings, .inl (g 0, 10, .inl a_town_houses_rings)), (q_town_houses_pranks, .inl (g 0, 10, .inl a_town_houses_pranks)), (q_town_halls, .inr (2, [.int f_town_halls_size, .ref q_town_halls_rows, .ref q_town_halls_firsts, .ref q_town_halls_lasts])), (q_town_halls_rows, .inl (g 0, 4, .inl a_town_halls_rows)), (q_town_halls_firsts, .inl (g 0, 4, .inl a_town_halls_firsts)), (q_town_halls_lasts, .inl (g 0, 4, .inl a_town_halls_lasts)), (q_town_posts, .inr (6, [.int f_town_posts_size, .ref q_town_posts_cells, .ref q_town_posts_tolds])), (q_town_posts_cells, .inl (g 0, 4, .inl a_town_posts_cells)), (q_town_posts_tolds, .inl (g 0, 4, .inl a_town_posts_tolds)), (q_town_blocks, .inl (g 0, 64, .inl a_town_blocks)), (q_town_kinds, .inl (g 0, 4, .inl a_town_kinds)), (q_past, .inr (5, [.ref q_past_towns, .int o7.1, .int o7.2.1])), (q_past_towns, .inl (g 4, 8, .inr (.inr (.inr (.inr (twA ad)))))), (q_reason, .inr (7, [.int o1.2.1, .int o1.2.2]))] ++ poolW g ad o7.2.2)) X k_X4_push (c_X4_push l D g ad q_past q_past_towns q_town q_town_houses q_town_halls q_town_posts q_town_blocks q_town_kinds q_town_houses_cells q_town_houses_froms q_town_houses_tos q_town_houses_rings q_town_houses_pranks q_town_halls_rows q_town_halls_firsts q_town_halls_lasts q_town_posts_cells q_town_posts_tolds f_past_size f_past_next a_past_pool f_town_hour f_town_day f_town_prankHouse f_town_bells f_town_echoes f_town_bellPranks f_town_houses_size a_town_houses_cells a_town_houses_froms a_town_houses_tos a_town_houses_rings a_town_houses_pranks f_town_halls_size a_town_halls_rows a_town_halls_firsts a_town_halls_lasts f_town_posts_size a_town_posts_cells a_town_posts_tolds a_town_blocks a_town_kinds o7 e8) ql_X11_X4_push dX11_tell_24 f9.1 f9.2 rfl rfl rfl rfl rfl ⟨Nat.le_of_ble_eq_true rfl, Nat.le_of_ble_eq_true rfl, rfl, rfl, Nat.le_of_ble_eq_true rfl, Nat.le_of_ble_eq_true rfl⟩ (Nat.le_of_ble_eq_true rfl) ?_
    refine z_aload_n X 0 dX11_tell_27 rfl rfl ?_
    refine z_get (q0 := 0) (k := 0) (ci := 11) X IW_P iw_X11 rfl qf_X11_X11_town (by decide) dX11_tell_28 rfl rfl ?_
    refine z_getN (q0 := 1) (k := 2) (ci := 9) X IW_P iw_X9 rfl qfN_X11_X9_posts (by decide) dX11_tell_31 rfl rfl ?_
    refine z_iload_n X 1 dX11_tell_34 rfl rfl ?_
    refine z_iload_n X 2 dX11_tell_35 rfl rfl ?_
    obtain ⟨o10, e11, h⟩ := bnd_p h
    have f12 := bk_app (E := [(q_this, .inr (11, [.ref q_town, .ref q_ahead, .ref q_kept, .int f_isKept, .ref q_past, .ref q_reason, .ref q_orders, .ref q_ways, .ref q_sheet])), (q_town, .inr (9, [.ref q_town_houses, .ref q_town_halls, .ref q_town_posts, .ref q_town_blocks, .ref q_town_kinds, .int f_town_hour, .int f_town_day, .int f_town_prankHouse, .int f_town_bells, .int f_town_echoes, .int f_town_bellPranks])), (q_town_houses, .inr (3, [.int f_town_houses_size, .ref q_town_houses_cells, .ref q_town_houses_froms, .ref q_town_houses_tos, .ref q_town_houses_rings, .ref q_town_houses_pranks])), (q_town_houses_cells, .inl (g 0, 10, .inl a_town_houses_cells)), (q_town_houses_froms, .inl (g 0, 10, .inl a_town_houses_froms)), (q_town_houses_tos, .inl (g 0, 10, .inl a_town_houses_tos)), (q_town_houses_rings, .inl (g 0, 10, .inl a_town_houses_rings)), (q_town_houses_pranks, .inl (g 0, 10, .inl a_town_houses_pranks)), (q_town_halls, .inr (2, [.int f_town_halls_size, .ref q_town_halls_rows, .ref q_town_halls_firsts, .ref q_town_halls_lasts])), (q_town_halls_rows, .inl (g 0, 4, .inl a_town_halls_rows)), (q_town_halls_firsts, .inl (g 0, 4, .inl a_town_halls_firsts)), (q_town_halls_lasts, .inl (g 0, 4, .inl a_town_halls_lasts)), (q_town_posts, .inr (6, [.int f_town_posts_size, .ref q_town_posts_cells, .ref q_town_posts_tolds])), (q_town_posts_cells, .inl (g 0, 4, .inl a_town_posts_cells)), (q_town_posts_tolds, .inl (g 0, 4, .inl a_town_posts_tolds)), (q_town_blocks, .inl (g 0, 64, .inl a_town_blocks)), (q_town_kinds, .inl (g 0, 4, .inl a_town_kinds)), (q_past, .inr (5, [.ref q_past_towns, .int o7.1, .int o7.2.1])), (q_past_towns, .inl (g 4, 8, .inr (.inr (.inr (.inr (twA ad)))))), (q_reason, .inr (7, [.int o1.2.1, .int o1.2.2]))]) (E' := [(q_this, .inr (11, [.ref q_town, .ref q_ahead, .ref q_kept, .int f_isKept, .ref q_past, .ref q_reason, .ref q_orders, .ref q_ways, .ref q_sheet])), (q_town, .inr (9, [.ref q_town_houses, .ref q_town_halls, .ref q_town_posts, .ref q_town_blocks, .ref q_town_kinds, .int f_town_hour, .int f_town_day, .int f_town_prankHouse, .int f_town_bells, .int f_town_echoes, .int f_town_bellPranks])), (q_town_houses, .inr (3, [.int f_town_houses_size, .ref q_town_houses_cells, .ref q_town_houses_froms, .ref q_town_houses_tos, .ref q_town_houses_rings, .ref q_town_houses_pranks])), (q_town_houses_cells, .inl (g 0, 10, .inl a_town_houses_cells)), (q_town_houses_froms, .inl (g 0, 10, .inl a_town_houses_froms)), (q_town_houses_tos, .inl (g 0, 10, .inl a_town_houses_tos)), (q_town_houses_rings, .inl (g 0, 10, .inl a_town_houses_rings)), (q_town_houses_pranks, .inl (g 0, 10, .inl a_town_houses_pranks)), (q_town_halls, .inr (2, [.int f_town_halls_size, .ref q_town_halls_rows, .ref q_town_halls_firsts, .ref q_town_halls_lasts])), (q_town_halls_rows, .inl (g 0, 4, .inl a_town_halls_rows)), (q_town_halls_firsts, .inl (g 0, 4, .inl a_town_halls_firsts)), (q_town_halls_lasts, .inl (g 0, 4, .inl a_town_halls_lasts)), (q_town_posts, .inr (6, [.int f_town_posts_size, .ref q_town_posts_cells, .ref q_town_posts_tolds])), (q_town_posts_cells, .inl (g 0, 4, .inl a_town_posts_cells)), (q_town_posts_tolds, .inl (g 0, 4, .inl o10)), (q_town_blocks, .inl (g 0, 64, .inl a_town_blocks)), (q_town_kinds, .inl (g 0, 4, .inl a_town_kinds)), (q_past, .inr (5, [.ref q_past_towns, .int o7.1, .int o7.2.1])), (q_past_towns, .inl (g 4, 8, .inr (.inr (.inr (.inr (twA ad)))))), (q_reason, .inr (7, [.int o1.2.1, .int o1.2.2]))]) (wc := [(q_town_posts, .inr (6, [.int f_town_posts_size, .ref q_town_posts_cells, .ref q_town_posts_tolds])), (q_town_posts_tolds, .inl (g 0, 4, .inl a_town_posts_tolds))]) (wc' := [(q_town_posts, .inr (6, [.int f_town_posts_size, .ref q_town_posts_cells, .ref q_town_posts_tolds])), (q_town_posts_tolds, .inl (g 0, 4, .inl o10))]) (wr := [(q_this, .inr (11, [.ref q_town, .ref q_ahead, .ref q_kept, .int f_isKept, .ref q_past, .ref q_reason, .ref q_orders, .ref q_ways, .ref q_sheet])), (q_town, .inr (9, [.ref q_town_houses, .ref q_town_halls, .ref q_town_posts, .ref q_town_blocks, .ref q_town_kinds, .int f_town_hour, .int f_town_day, .int f_town_prankHouse, .int f_town_bells, .int f_town_echoes, .int f_town_bellPranks])), (q_town_houses, .inr (3, [.int f_town_houses_size, .ref q_town_houses_cells, .ref q_town_houses_froms, .ref q_town_houses_tos, .ref q_town_houses_rings, .ref q_town_houses_pranks])), (q_town_houses_cells, .inl (g 0, 10, .inl a_town_houses_cells)), (q_town_houses_froms, .inl (g 0, 10, .inl a_town_houses_froms)), (q_town_houses_tos, .inl (g 0, 10, .inl a_town_houses_tos)), (q_town_houses_rings, .inl (g 0, 10, .inl a_town_houses_rings)), (q_town_houses_pranks, .inl (g 0, 10, .inl a_town_houses_pranks)), (q_town_halls, .inr (2, [.int f_town_halls_size, .ref q_town_halls_rows, .ref q_town_halls_firsts, .ref q_town_halls_lasts])), (q_town_halls_rows, .inl (g 0, 4, .inl a_town_halls_rows)), (q_town_halls_firsts, .inl (g 0, 4, .inl a_town_halls_firsts)), (q_town_halls_lasts, .inl (g 0, 4, .inl a_town_halls_lasts)), (q_town_posts_cells, .inl (g 0, 4, .inl a_town_posts_cells)), (q_town_blocks, .inl (g 0, 64, .inl a_town_blocks)), (q_town_kinds, .inl (g 0, 4, .inl a_town_kinds)), (q_past, .inr (5, [.ref q_past_towns, .int o7.1, .int o7.2.1])), (q_past_towns, .inl (g 4, 8, .inr (.inr (.inr (.inr (twA ad)))))), (q_reason, .inr (7, [.int o1.2.1, .int o1.2.2]))]) (X := poolW g ad o7.2.2) (perm_of (n := 20) [12, 14] [0, 1, 2, 3, 4, 5, 6, 7, 8, 9, 10, 11, 13, 15, 16, 17, 18, 19] rfl rfl rfl (by decide +kernel)) (perm_of (n := 20) [12, 14] [0, 1, 2, 3, 4, 5, 6, 7, 8, 9, 10, 11, 13, 15, 16, 17, 18, 19] rfl rfl rfl (by decide +kernel)) ((rfl : ([(q_town_posts, .inr (6, [.int f_town_posts_size, .ref q_town_posts_cells, .ref q_town_posts_tolds])), (q_town_posts_tolds, .inl (g 0, 4, .inl a_town_posts_tolds))] : va_W).map Prod.fst = [q_town_posts, q_town_posts_tolds]).trans (rfl : ([(q_town_posts, .inr (6, [.int f_town_posts_size, .ref q_town_posts_cells, .ref q_town_posts_tolds])), (q_town_posts_tolds, .inl (g 0, 4, .inl o10))] : va_W).map Prod.fst = [q_town_posts, q_town_posts_tolds]).symm)
    refine z_wgV (rest := []) (q0 := 12) (ci := 6) (ws' := ([(q_this, .inr (11, [.ref q_town, .ref q_ahead, .ref q_kept, .int f_isKept, .ref q_past, .ref q_reason, .ref q_orders, .ref q_ways, .ref q_sheet])), (q_town, .inr (9, [.ref q_town_houses, .ref q_town_halls, .ref q_town_posts, .ref q_town_blocks, .ref q_town_kinds, .int f_town_hour, .int f_town_day, .int f_town_prankHouse, .int f_town_bells, .int f_town_echoes, .int f_town_bellPranks])), (q_town_houses, .inr (3, [.int f_town_houses_size, .ref q_town_houses_cells, .ref q_town_houses_froms, .ref q_town_houses_tos, .ref q_town_houses_rings, .ref q_town_houses_pranks])), (q_town_houses_cells, .inl (g 0, 10, .inl a_town_houses_cells)), (q_town_houses_froms, .inl (g 0, 10, .inl a_town_houses_froms)), (q_town_houses_tos, .inl (g 0, 10, .inl a_town_houses_tos)), (q_town_houses_rings, .inl (g 0, 10, .inl a_town_houses_rings)), (q_town_houses_pranks, .inl (g 0, 10, .inl a_town_houses_pranks)), (q_town_halls, .inr (2, [.int f_town_halls_size, .ref q_town_halls_rows, .ref q_town_halls_firsts, .ref q_town_halls_lasts])), (q_town_halls_rows, .inl (g 0, 4, .inl a_town_halls_rows)), (q_town_halls_firsts, .inl (g 0, 4, .inl a_town_halls_firsts)), (q_town_halls_lasts, .inl (g 0, 4, .inl a_town_halls_lasts)), (q_town_posts, .inr (6, [.int f_town_posts_size, .ref q_town_posts_cells, .ref q_town_posts_tolds])), (q_town_posts_cells, .inl (g 0, 4, .inl a_town_posts_cells)), (q_town_posts_tolds, .inl (g 0, 4, .inl o10)), (q_town_blocks, .inl (g 0, 64, .inl a_town_blocks)), (q_town_kinds, .inl (g 0, 4, .inl a_town_kinds)), (q_past, .inr (5, [.ref q_past_towns, .int o7.1, .int o7.2.1])), (q_past_towns, .inl (g 4, 8, .inr (.inr (.inr (.inr (twA ad)))))), (q_reason, .inr (7, [.int o1.2.1, .int o1.2.2]))] ++ poolW g ad o7.2.2)) X k_X5_setTold (c_X5_setTold l D g q_town_posts q_town_posts_cells q_town_posts_tolds p1 p2 f_town_posts_size a_town_posts_tolds o10 e11) ql_X11_X5_setTold dX11_tell_36 f12.1 f12.2 rfl rfl rfl rfl rfl ⟨Nat.le_of_ble_eq_true rfl, Nat.le_of_ble_eq_true rfl, rfl, rfl, Nat.le_of_ble_eq_true rfl, Nat.le_of_ble_eq_true rfl⟩ (Nat.le_of_ble_eq_true rfl) ?_
    refine z_aload_n X 0 dX11_tell_39 rfl rfl ?_
    refine z_get (q0 := 0) (k := 0) (ci := 11) X IW_P iw_X11 rfl qf_X11_X11_town (by decide) dX11_tell_40 rfl rfl ?_
    obtain ⟨o13, e14, h⟩ := bnd_p h
    refine z_rdV (rest := []) (q0 := 1) (ci := 9) X IW_P k_X9_countFits (c_X9_countFits l D g q_town q_town_houses q_town_halls q_town_posts q_town_blocks q_town_kinds q_town_posts_cells q_town_posts_tolds f_town_hour f_town_day f_town_prankHouse f_town_bells f_town_echoes f_town_bellPranks f_town_posts_size a_town_posts_cells o10 a_town_blocks o13 e14) ql_X11_X9_countFits dX11_tell_43 [1, 12, 13, 14, 15] rfl rfl rfl rfl rfl rfl ⟨Nat.le_of_ble_eq_true rfl, Nat.le_of_ble_eq_true rfl, rfl, rfl, Nat.le_of_ble_eq_true rfl, Nat.le_of_ble_eq_true rfl⟩ (Nat.le_of_ble_eq_true rfl) ?_
    cases h
    exact z_iretX X hQ (Nat.le_of_ble_eq_true rfl) (Nat.le_of_ble_eq_true rfl) hr dX11_tell_46
  · have h := brn_f h x6
    cases h
    exact zt_out (lv := [(0, .ref q_this), (1, .int p1), (2, .int p2)]) X hno hQ x6 (Nat.le_of_ble_eq_true rfl) (Nat.le_of_ble_eq_true rfl)

def J_X11_postOf_59 (p1 : Int32) (p2 : Int32) (f_town_posts_size : Int32) (a_town_posts_cells : Nat → Int32) (a_town_posts_tolds : Nat → Int32) (t0 : Int32) : Option (Nat × Int32) :=
  bnd (F_X11_demandFound t0) (fun o15 => brn (o15 = 0) (bnd (F_X5_toldAt p1 a_town_posts_tolds) (fun o18 => some (0, o18))) (some (o15, (0 : Int32))))

def F_X11_postOf (p1 : Int32) (p2 : Int32) (f_town_posts_size : Int32) (a_town_posts_cells : Nat → Int32) (a_town_posts_tolds : Nat → Int32) : Option (Nat × Int32) :=
  bnd (F_X5_has p1 f_town_posts_size) (fun o1 => bnd (F_X11_demandListed o1) (fun o3 => brn (o3 = 0) (bnd (F_X11_isWithin p2 (0 : Int32) (1 : Int32)) (fun o6 => bnd (F_X11_demandProper o6) (fun o8 => brn (o8 = 0) (brn (p2 = 0) (bnd (F_X5_cellAt p1 a_town_posts_cells) (fun o11 => some (0, o11))) (bnd (F_X5_toldAt p1 a_town_posts_tolds) (fun o13 => brn (o13 = ((-1) : Int32)) (J_X11_postOf_59 p1 p2 f_town_posts_size a_town_posts_cells a_town_posts_tolds (0 : Int32)) (J_X11_postOf_59 p1 p2 f_town_posts_size a_town_posts_cells a_town_posts_tolds (1 : Int32))))) (some (o8, (0 : Int32)))))) (some (o3, (0 : Int32)))))
theorem dX11_postOf_0 : decode cX11_postOf 0 = .ok (.aload_n 0, 1) := by decide +kernel
theorem dX11_postOf_1 : decode cX11_postOf 1 = .ok (.getfield 10, 3) := by decide +kernel
theorem dX11_postOf_4 : decode cX11_postOf 4 = .ok (.getfield 200, 3) := by decide +kernel
theorem dX11_postOf_7 : decode cX11_postOf 7 = .ok (.iload_n 1, 1) := by decide +kernel
theorem dX11_postOf_8 : decode cX11_postOf 8 = .ok (.invokevirtual 208, 3) := by decide +kernel
theorem dX11_postOf_11 : decode cX11_postOf 11 = .ok (.invokestatic 87, 3) := by decide +kernel
theorem dX11_postOf_14 : decode cX11_postOf 14 = .ok (.iload_n 2, 1) := by decide +kernel
theorem dX11_postOf_15 : decode cX11_postOf 15 = .ok (.iconst 0, 1) := by decide +kernel
theorem dX11_postOf_16 : decode cX11_postOf 16 = .ok (.iconst 1, 1) := by decide +kernel
theorem dX11_postOf_17 : decode cX11_postOf 17 = .ok (.invokestatic 120, 3) := by decide +kernel
theorem dX11_postOf_20 : decode cX11_postOf 20 = .ok (.invokestatic 124, 3) := by decide +kernel
theorem dX11_postOf_23 : decode cX11_postOf 23 = .ok (.iload_n 2, 1) := by decide +kernel
theorem dX11_postOf_24 : decode cX11_postOf 24 = .ok (.ifCond .ne 15, 3) := by decide +kernel
theorem dX11_postOf_27 : decode cX11_postOf 27 = .ok (.aload_n 0, 1) := by decide +kernel
theorem dX11_postOf_28 : decode cX11_postOf 28 = .ok (.getfield 10, 3) := by decide +kernel
theorem dX11_postOf_31 : decode cX11_postOf 31 = .ok (.getfield 200, 3) := by decide +kernel
theorem dX11_postOf_34 : decode cX11_postOf 34 = .ok (.iload_n 1, 1) := by decide +kernel
theorem dX11_postOf_35 : decode cX11_postOf 35 = .ok (.invokevirtual 221, 3) := by decide +kernel
theorem dX11_postOf_38 : decode cX11_postOf 38 = .ok (.ireturn, 1) := by decide +kernel
theorem dX11_postOf_39 : decode cX11_postOf 39 = .ok (.aload_n 0, 1) := by decide +kernel
theorem dX11_postOf_40 : decode cX11_postOf 40 = .ok (.getfield 10, 3) := by decide +kernel
theorem dX11_postOf_43 : decode cX11_postOf 43 = .ok (.getfield 200, 3) := by decide +kernel
theorem dX11_postOf_46 : decode cX11_postOf 46 = .ok (.iload_n 1, 1) := by decide +kernel
theorem dX11_postOf_47 : decode cX11_postOf 47 = .ok (.invokevirtual 222, 3) := by decide +kernel
theorem dX11_postOf_50 : decode cX11_postOf 50 = .ok (.iconst (-1), 1) := by decide +kernel
theorem dX11_postOf_51 : decode cX11_postOf 51 = .ok (.if_icmp .eq 7, 3) := by decide +kernel
theorem dX11_postOf_54 : decode cX11_postOf 54 = .ok (.iconst 1, 1) := by decide +kernel
theorem dX11_postOf_55 : decode cX11_postOf 55 = .ok (.goto 4, 3) := by decide +kernel
theorem dX11_postOf_58 : decode cX11_postOf 58 = .ok (.iconst 0, 1) := by decide +kernel
theorem dX11_postOf_59 : decode cX11_postOf 59 = .ok (.invokestatic 169, 3) := by decide +kernel
theorem dX11_postOf_62 : decode cX11_postOf 62 = .ok (.aload_n 0, 1) := by decide +kernel
theorem dX11_postOf_63 : decode cX11_postOf 63 = .ok (.getfield 10, 3) := by decide +kernel
theorem dX11_postOf_66 : decode cX11_postOf 66 = .ok (.getfield 200, 3) := by decide +kernel
theorem dX11_postOf_69 : decode cX11_postOf 69 = .ok (.iload_n 1, 1) := by decide +kernel
theorem dX11_postOf_70 : decode cX11_postOf 70 = .ok (.invokevirtual 222, 3) := by decide +kernel
theorem dX11_postOf_73 : decode cX11_postOf 73 = .ok (.ireturn, 1) := by decide +kernel
theorem k_X11_postOf : cardV yX11_postOf (Cond.code yX11_postOf cX11_postOf 3 (some .int)) 2 := ⟨⟨qi_X11_postOf, qv_X11_postOf⟩, qc_X11_postOf, qn_X11, by decide +kernel, by decide +kernel, by decide +kernel⟩
set_option maxHeartbeats 4000000 in
set_option maxRecDepth 100000 in
theorem c_X11_postOf (l : Launch) (hfl : l.stackTraces = false) (ak av : Nat → Nat) (aS : Nat) (D : va_G) (g : Nat → ClassId) (q_this q_town q_ahead q_kept q_past q_reason q_orders q_ways q_sheet q_town_houses q_town_halls q_town_posts q_town_blocks q_town_kinds q_town_posts_cells q_town_posts_tolds : Nat) (p1 p2 : Int32) (f_isKept : Int32) (f_town_hour : Int32) (f_town_day : Int32) (f_town_prankHouse : Int32) (f_town_bells : Int32) (f_town_echoes : Int32) (f_town_bellPranks : Int32) (f_town_posts_size : Int32) (a_town_posts_cells : Nat → Int32) (a_town_posts_tolds : Nat → Int32) (o : Nat × Int32) (h : F_X11_postOf p1 p2 f_town_posts_size a_town_posts_cells a_town_posts_tolds = some o) : MX l yX11_postOf (Cond.code yX11_postOf cX11_postOf 3 (some .int)) { frames := 8, cells := 3, slots := 18, locals := 130 } ak av aS D g [.ref q_this, .int p1, .int p2] [(q_this, .inr (11, [.ref q_town, .ref q_ahead, .ref q_kept, .int f_isKept, .ref q_past, .ref q_reason, .ref q_orders, .ref q_ways, .ref q_sheet])), (q_town, .inr (9, [.ref q_town_houses, .ref q_town_halls, .ref q_town_posts, .ref q_town_blocks, .ref q_town_kinds, .int f_town_hour, .int f_town_day, .int f_town_prankHouse, .int f_town_bells, .int f_town_echoes, .int f_town_bellPranks])), (q_town_posts, .inr (6, [.int f_town_posts_size, .ref q_town_posts_cells, .ref q_town_posts_tolds])), (q_town_posts_cells, .inl (g 0, 4, .inl a_town_posts_cells)), (q_town_posts_tolds, .inl (g 0, 4, .inl a_town_posts_tolds))] o.1 (some (.int o.2)) [(q_this, .inr (11, [.ref q_town, .ref q_ahead, .ref q_kept, .int f_isKept, .ref q_past, .ref q_reason, .ref q_orders, .ref q_ways, .ref q_sheet])), (q_town, .inr (9, [.ref q_town_houses, .ref q_town_halls, .ref q_town_posts, .ref q_town_blocks, .ref q_town_kinds, .int f_town_hour, .int f_town_day, .int f_town_prankHouse, .int f_town_bells, .int f_town_echoes, .int f_town_bellPranks])), (q_town_posts, .inr (6, [.int f_town_posts_size, .ref q_town_posts_cells, .ref q_town_posts_tolds])), (q_town_posts_cells, .inl (g 0, 4, .inl a_town_posts_cells)), (q_town_posts_tolds, .inl (g 0, 4, .inl a_town_posts_tolds))] 3 18 := by
  refine z_ex_start (by decide) (Nat.le_of_ble_eq_true rfl) ?_
  intro p e s m args below meth c Q A X hr hE hA hno hQ
  refine z_lv (lv' := [(0, .ref q_this), (1, .int p1), (2, .int p2)]) rfl ?_
  have H59 : ∀ (t0 : Int32), J_X11_postOf_59 p1 p2 f_town_posts_size a_town_posts_cells a_town_posts_tolds t0 = some o → Z p l e { frames := 8, cells := 3, slots := 18, locals := 130 } s m args below meth c Q 3 2 12 (IW D A s [(q_this, .inr (11, [.ref q_town, .ref q_ahead, .ref q_kept, .int f_isKept, .ref q_past, .ref q_reason, .ref q_orders, .ref q_ways, .ref q_sheet])), (q_town, .inr (9, [.ref q_town_houses, .ref q_town_halls, .ref q_town_posts, .ref q_town_blocks, .ref q_town_kinds, .int f_town_hour, .int f_town_day, .int f_town_prankHouse, .int f_town_bells, .int f_town_echoes, .int f_town_bellPranks])), (q_town_posts, .inr (6, [.int f_town_posts_size, .ref q_town_posts_cells, .ref q_town_posts_tolds])), (q_town_posts_cells, .inl (g 0, 4, .inl a_town_posts_cells)), (q_town_posts_tolds, .inl (g 0, 4, .inl a_town_posts_tolds))]) 59 [(0, .ref q_this), (1, .int p1)] [.int t0] := by
    intro t0 h
    obtain ⟨o15, e16, h⟩ := bnd_p h
    refine z_exS (rest := []) (ws' := [(q_this, .inr (11, [.ref q_town, .ref q_ahead, .ref q_kept, .int f_isKept, .ref q_past, .ref q_reason, .ref q_orders, .ref q_ways, .ref q_sheet])), (q_town, .inr (9, [.ref q_town_houses, .ref q_town_halls, .ref q_town_posts, .ref q_town_blocks, .ref q_town_kinds, .int f_town_hour, .int f_town_day, .int f_town_prankHouse, .int f_town_bells, .int f_town_echoes, .int f_town_bellPranks])), (q_town_posts, .inr (6, [.int f_town_posts_size, .ref q_town_posts_cells, .ref q_town_posts_tolds])), (q_town_posts_cells, .inl (g 0, 4, .inl a_town_posts_cells)), (q_town_posts_tolds, .inl (g 0, 4, .inl a_town_posts_tolds))]) X hE hA k_X11_demandFound (c_X11_demandFound l hfl ak av aS D g t0 o15 e16) ql_X11_X11_demandFound dX11_postOf_59 bkc_nil bk_nil rfl rfl ⟨Nat.le_of_ble_eq_true rfl, Nat.le_of_ble_eq_true rfl, rfl, rfl, Nat.le_of_ble_eq_true rfl, Nat.le_of_ble_eq_true rfl⟩ (Nat.le_of_ble_eq_true rfl) (fun x17 => ?_) (fun x17 => ?_)
    · have h := brn_t h x17
      refine z_aload_n X 0 dX11_postOf_62 rfl rfl ?_
      refine z_get (q0 := 0) (k := 0) (ci := 11) X IW_P iw_X11 rfl qf_X11_X11_town (by decide) dX11_postOf_63 rfl rfl ?_
      refine z_getN (q0 := 1) (k := 2) (ci := 9) X IW_P iw_X9 rfl qfN_X11_X9_posts (by decide) dX11_postOf_66 rfl rfl ?_
      refine z_iload_n X 1 dX11_postOf_69 rfl rfl ?_
      obtain ⟨o18, e19, h⟩ := bnd_p h
      refine z_rdV (rest := []) (q0 := 2) (ci := 6) X IW_P k_X5_toldAt (c_X5_toldAt l D g q_town_posts q_town_posts_cells q_town_posts_tolds p1 f_town_posts_size a_town_posts_tolds o18 e19) ql_X11_X5_toldAt dX11_postOf_70 [2, 4] rfl rfl rfl rfl rfl rfl ⟨Nat.le_of_ble_eq_true rfl, Nat.le_of_ble_eq_true rfl, rfl, rfl, Nat.le_of_ble_eq_true rfl, Nat.le_of_ble_eq_true rfl⟩ (Nat.le_of_ble_eq_true rfl) ?_
      cases h
      exact z_iretX X hQ (Nat.le_of_ble_eq_true rfl) (Nat.le_of_ble_eq_true rfl) hr dX11_postOf_73
    · have h := brn_f h x17
      cases h
      exact zt_out (lv := [(0, .ref q_this), (1, .int p1)]) X hno hQ x17 (Nat.le_of_ble_eq_true rfl) (Nat.le_of_ble_eq_true rfl)
  refine z_aload_n X 0 dX11_postOf_0 rfl rfl ?_
  refine z_get (q0 := 0) (k := 0) (ci := 11) X IW_P iw_X11 rfl qf_X11_X11_town (by decide) dX11_postOf_1 rfl rfl ?_
  refine z_getN (q0 := 1) (k := 2) (ci := 9) X IW_P iw_X9 rfl qfN_X11_X9_posts (by decide) dX11_postOf_4 rfl rfl ?_
  refine z_iload_n X 1 dX11_postOf_7 rfl rfl ?_
  obtain ⟨o1, e2, h⟩ := bnd_p h
  refine z_rdV (rest := []) (q0 := 2) (ci := 6) X IW_P k_X5_has (c_X5_has l D g q_town_posts q_town_posts_cells q_town_posts_tolds p1 f_town_posts_size o1 e2) ql_X11_X5_has dX11_postOf_8 [2] rfl rfl rfl rfl rfl rfl ⟨Nat.le_of_ble_eq_true rfl, Nat.le_of_ble_eq_true rfl, rfl, rfl, Nat.le_of_ble_eq_true rfl, Nat.le_of_ble_eq_true rfl⟩ (Nat.le_of_ble_eq_true rfl) ?_
  obtain ⟨o3, e4, h⟩ := bnd_p h
  refine z_exS (rest := []) (ws' := [(q_this, .inr (11, [.ref q_town, .ref q_ahead, .ref q_kept, .int f_isKept, .ref q_past, .ref q_reason, .ref q_orders, .ref q_ways, .ref q_sheet])), (q_town, .inr (9, [.ref q_town_houses, .ref q_town_halls, .ref q_town_posts, .ref q_town_blocks, .ref q_town_kinds, .int f_town_hour, .int f_town_day, .int f_town_prankHouse, .int f_town_bells, .int f_town_echoes, .int f_town_bellPranks])), (q_town_posts, .inr (6, [.int f_town_posts_size, .ref q_town_posts_cells, .ref q_town_posts_tolds])), (q_town_posts_cells, .inl (g 0, 4, .inl a_town_posts_cells)), (q_town_posts_tolds, .inl (g 0, 4, .inl a_town_posts_tolds))]) X hE hA k_X11_demandListed (c_X11_demandListed l hfl ak av aS D g o1 o3 e4) ql_X11_X11_demandListed dX11_postOf_11 bkc_nil bk_nil rfl rfl ⟨Nat.le_of_ble_eq_true rfl, Nat.le_of_ble_eq_true rfl, rfl, rfl, Nat.le_of_ble_eq_true rfl, Nat.le_of_ble_eq_true rfl⟩ (Nat.le_of_ble_eq_true rfl) (fun x5 => ?_) (fun x5 => ?_)
  · have h := brn_t h x5
    refine z_iload_n X 2 dX11_postOf_14 rfl rfl ?_
    refine z_iconst X (0 : Int32) dX11_postOf_15 (by decide) ?_
    refine z_iconst X (1 : Int32) dX11_postOf_16 (by decide) ?_
    obtain ⟨o6, e7, h⟩ := bnd_p h
    refine z_rdS (rest := []) X IW_P k_X11_isWithin (c_X11_isWithin l D g p2 (0 : Int32) (1 : Int32) o6 e7) ql_X11_X11_isWithin dX11_postOf_17 [] rfl rfl rfl ⟨Nat.le_of_ble_eq_true rfl, Nat.le_of_ble_eq_true rfl, rfl, rfl, Nat.le_of_ble_eq_true rfl, Nat.le_of_ble_eq_true rfl⟩ (Nat.le_of_ble_eq_true rfl) ?_
    obtain ⟨o8, e9, h⟩ := bnd_p h
    refine z_exS (rest := []) (ws' := [(q_this, .inr (11, [.ref q_town, .ref q_ahead, .ref q_kept, .int f_isKept, .ref q_past, .ref q_reason, .ref q_orders, .ref q_ways, .ref q_sheet])), (q_town, .inr (9, [.ref q_town_houses, .ref q_town_halls, .ref q_town_posts, .ref q_town_blocks, .ref q_town_kinds, .int f_town_hour, .int f_town_day, .int f_town_prankHouse, .int f_town_bells, .int f_town_echoes, .int f_town_bellPranks])), (q_town_posts, .inr (6, [.int f_town_posts_size, .ref q_town_posts_cells, .ref q_town_posts_tolds])), (q_town_posts_cells, .inl (g 0, 4, .inl a_town_posts_cells)), (q_town_posts_tolds, .inl (g 0, 4, .inl a_town_posts_tolds))]) X hE hA k_X11_demandProper (c_X11_demandProper l hfl ak av aS D g o6 o8 e9) ql_X11_X11_demandProper dX11_postOf_20 bkc_nil bk_nil rfl rfl ⟨Nat.le_of_ble_eq_true rfl, Nat.le_of_ble_eq_true rfl, rfl, rfl, Nat.le_of_ble_eq_true rfl, Nat.le_of_ble_eq_true rfl⟩ (Nat.le_of_ble_eq_true rfl) (fun x10 => ?_) (fun x10 => ?_)
    · have h := brn_t h x10
      refine z_iload_n X 2 dX11_postOf_23 rfl rfl ?_
      refine z_if_ne X 39 dX11_postOf_24 (by decide) h (fun _ h => ?_) (fun _ h => ?_)
      · refine z_aload_n X 0 dX11_postOf_27 rfl rfl ?_
        refine z_get (q0 := 0) (k := 0) (ci := 11) X IW_P iw_X11 rfl qf_X11_X11_town (by decide) dX11_postOf_28 rfl rfl ?_
        refine z_getN (q0 := 1) (k := 2) (ci := 9) X IW_P iw_X9 rfl qfN_X11_X9_posts (by decide) dX11_postOf_31 rfl rfl ?_
        refine z_iload_n X 1 dX11_postOf_34 rfl rfl ?_
        obtain ⟨o11, e12, h⟩ := bnd_p h
        refine z_rdV (rest := []) (q0 := 2) (ci := 6) X IW_P k_X5_cellAt (c_X5_cellAt l D g q_town_posts q_town_posts_cells q_town_posts_tolds p1 f_town_posts_size a_town_posts_cells o11 e12) ql_X11_X5_cellAt dX11_postOf_35 [2, 3] rfl rfl rfl rfl rfl rfl ⟨Nat.le_of_ble_eq_true rfl, Nat.le_of_ble_eq_true rfl, rfl, rfl, Nat.le_of_ble_eq_true rfl, Nat.le_of_ble_eq_true rfl⟩ (Nat.le_of_ble_eq_true rfl) ?_
        cases h
        exact z_iretX X hQ (Nat.le_of_ble_eq_true rfl) (Nat.le_of_ble_eq_true rfl) hr dX11_postOf_38
      · refine z_aload_n X 0 dX11_postOf_39 rfl rfl ?_
        refine z_get (q0 := 0) (k := 0) (ci := 11) X IW_P iw_X11 rfl qf_X11_X11_town (by decide) dX11_postOf_40 rfl rfl ?_
        refine z_getN (q0 := 1) (k := 2) (ci := 9) X IW_P iw_X9 rfl qfN_X11_X9_posts (by decide) dX11_postOf_43 rfl rfl ?_
        refine z_iload_n X 1 dX11_postOf_46 rfl rfl ?_
        obtain ⟨o13, e14, h⟩ := bnd_p h
        refine z_rdV (rest := []) (q0 := 2) (ci := 6) X IW_P k_X5_toldAt (c_X5_toldAt l D g q_town_posts q_town_posts_cells q_town_posts_tolds p1 f_town_posts_size a_town_posts_tolds o13 e14) ql_X11_X5_toldAt dX11_postOf_47 [2, 4] rfl rfl rfl rfl rfl rfl ⟨Nat.le_of_ble_eq_true rfl, Nat.le_of_ble_eq_true rfl, rfl, rfl, Nat.le_of_ble_eq_true rfl, Nat.le_of_ble_eq_true rfl⟩ (Nat.le_of_ble_eq_true rfl) ?_
        refine z_iconst X ((-1) : Int32) dX11_postOf_50 (by decide) ?_
        refine z_icmp_eq X 58 dX11_postOf_51 (by decide) h (fun _ h => ?_) (fun _ h => ?_)
        · refine z_iconst X (0 : Int32) dX11_postOf_58 (by decide) ?_
          refine z_widen (k := 2) (n := 12) (Nat.le_of_ble_eq_true rfl) (Nat.le_of_ble_eq_true rfl) ?_
          refine z_sub (lv' := [(0, .ref q_this), (1, .int p1)]) [0, 1] rfl ?_
          exact H59 (0 : Int32) h
        · refine z_iconst X (1 : Int32) dX11_postOf_54 (by decide) ?_
          refine z_goto X 59 dX11_postOf_55 (by decide) ?_
          refine z_widen (k := 2) (n := 12) (Nat.le_of_ble_eq_true rfl) (Nat.le_of_ble_eq_true rfl) ?_
          refine z_sub (lv' := [(0, .ref q_this), (1, .int p1)]) [0, 1] rfl ?_
          exact H59 (1 : Int32) h
    · have h := brn_f h x10
      cases h
      exact zt_out (lv := [(0, .ref q_this), (1, .int p1), (2, .int p2)]) X hno hQ x10 (Nat.le_of_ble_eq_true rfl) (Nat.le_of_ble_eq_true rfl)
  · have h := brn_f h x5
    cases h
    exact zt_out (lv := [(0, .ref q_this), (1, .int p1), (2, .int p2)]) X hno hQ x5 (Nat.le_of_ble_eq_true rfl) (Nat.le_of_ble_eq_true rfl)

def F_X11_fits (p1 : Int32) (f_town_prankHouse : Int32) (f_town_posts_size : Int32) (a_town_posts_cells : Nat → Int32) (a_town_posts_tolds : Nat → Int32) (a_town_blocks : Nat → Int32) : Option (Nat × Int32) :=
  bnd (F_X0_isCell p1) (fun o1 => bnd (F_X11_demandProper o1) (fun o3 => brn (o3 = 0) (bnd (F_X9_hasPrank f_town_prankHouse) (fun o6 => bnd (F_X11_demandFound o6) (fun o8 => brn (o8 = 0) (bnd (F_X9_canBeFrom p1 f_town_posts_size a_town_posts_cells a_town_posts_tolds a_town_blocks) (fun o11 => grd (o11 = 0 ∨ o11 = 1) (some (0, o11)))) (some (o8, (0 : Int32)))))) (some (o3, (0 : Int32)))))
theorem dX11_fits_0 : decode cX11_fits 0 = .ok (.iload_n 1, 1) := by decide +kernel
theorem dX11_fits_1 : decode cX11_fits 1 = .ok (.invokestatic 225, 3) := by decide +kernel
theorem dX11_fits_4 : decode cX11_fits 4 = .ok (.invokestatic 124, 3) := by decide +kernel
theorem dX11_fits_7 : decode cX11_fits 7 = .ok (.aload_n 0, 1) := by decide +kernel
theorem dX11_fits_8 : decode cX11_fits 8 = .ok (.getfield 10, 3) := by decide +kernel
theorem dX11_fits_11 : decode cX11_fits 11 = .ok (.invokevirtual 230, 3) := by decide +kernel
theorem dX11_fits_14 : decode cX11_fits 14 = .ok (.invokestatic 169, 3) := by decide +kernel
theorem dX11_fits_17 : decode cX11_fits 17 = .ok (.aload_n 0, 1) := by decide +kernel
theorem dX11_fits_18 : decode cX11_fits 18 = .ok (.getfield 10, 3) := by decide +kernel
theorem dX11_fits_21 : decode cX11_fits 21 = .ok (.iload_n 1, 1) := by decide +kernel
theorem dX11_fits_22 : decode cX11_fits 22 = .ok (.invokevirtual 234, 3) := by decide +kernel
theorem dX11_fits_25 : decode cX11_fits 25 = .ok (.ireturn, 1) := by decide +kernel
theorem k_X11_fits : cardV yX11_fits (Cond.code yX11_fits cX11_fits 2 (some .boolean)) 1 := ⟨⟨qi_X11_fits, qv_X11_fits⟩, qc_X11_fits, qn_X11, by decide +kernel, by decide +kernel, by decide +kernel⟩
set_option maxHeartbeats 4000000 in
set_option maxRecDepth 100000 in
theorem c_X11_fits (l : Launch) (hfl : l.stackTraces = false) (ak av : Nat → Nat) (aS : Nat) (D : va_G) (g : Nat → ClassId) (q_this q_town q_ahead q_kept q_past q_reason q_orders q_ways q_sheet q_town_houses q_town_halls q_town_posts q_town_blocks q_town_kinds q_town_posts_cells q_town_posts_tolds : Nat) (p1 : Int32) (f_isKept : Int32) (f_town_hour : Int32) (f_town_day : Int32) (f_town_prankHouse : Int32) (f_town_bells : Int32) (f_town_echoes : Int32) (f_town_bellPranks : Int32) (f_town_posts_size : Int32) (a_town_posts_cells : Nat → Int32) (a_town_posts_tolds : Nat → Int32) (a_town_blocks : Nat → Int32) (o : Nat × Int32) (h : F_X11_fits p1 f_town_prankHouse f_town_posts_size a_town_posts_cells a_town_posts_tolds a_town_blocks = some o) : MX l yX11_fits (Cond.code yX11_fits cX11_fits 2 (some .boolean)) { frames := 8, cells := 2, slots := 12, locals := 130 } ak av aS D g [.ref q_this, .int p1] [(q_this, .inr (11, [.ref q_town, .ref q_ahead, .ref q_kept, .int f_isKept, .ref q_past, .ref q_reason, .ref q_orders, .ref q_ways, .ref q_sheet])), (q_town, .inr (9, [.ref q_town_houses, .ref q_town_halls, .ref q_town_posts, .ref q_town_blocks, .ref q_town_kinds, .int f_town_hour, .int f_town_day, .int f_town_prankHouse, .int f_town_bells, .int f_town_echoes, .int f_town_bellPranks])), (q_town_posts, .inr (6, [.int f_town_posts_size, .ref q_town_posts_cells, .ref q_town_posts_tolds])), (q_town_posts_cells, .inl (g 0, 4, .inl a_town_posts_cells)), (q_town_posts_tolds, .inl (g 0, 4, .inl a_town_posts_tolds)), (q_town_blocks, .inl (g 0, 64, .inl a_town_blocks))] o.1 (some (.int o.2)) [(q_this, .inr (11, [.ref q_town, .ref q_ahead, .ref q_kept, .int f_isKept, .ref q_past, .ref q_reason, .ref q_orders, .ref q_ways, .ref q_sheet])), (q_town, .inr (9, [.ref q_town_houses, .ref q_town_halls, .ref q_town_posts, .ref q_town_blocks, .ref q_town_kinds, .int f_town_hour, .int f_town_day, .int f_town_prankHouse, .int f_town_bells, .int f_town_echoes, .int f_town_bellPranks])), (q_town_posts, .inr (6, [.int f_town_posts_size, .ref q_town_posts_cells, .ref q_town_posts_tolds])), (q_town_posts_cells, .inl (g 0, 4, .inl a_town_posts_cells)), (q_town_posts_tolds, .inl (g 0, 4, .inl a_town_posts_tolds)), (q_town_blocks, .inl (g 0, 64, .inl a_town_blocks))] 2 12 := by
  refine z_ex_start (by decide) (Nat.le_of_ble_eq_true rfl) ?_
  intro p e s m args below meth c Q A X hr hE hA hno hQ
  refine z_lv (lv' := [(0, .ref q_this), (1, .int p1)]) rfl ?_
  refine z_iload_n X 1 dX11_fits_0 rfl rfl ?_
  obtain ⟨o1, e2, h⟩ := bnd_p h
  refine z_rdS (rest := []) X IW_P k_X0_isCell (c_X0_isCell l D g p1 o1 e2) ql_X11_X0_isCell dX11_fits_1 [] rfl rfl rfl ⟨Nat.le_of_ble_eq_true rfl, Nat.le_of_ble_eq_true rfl, rfl, rfl, Nat.le_of_ble_eq_true rfl, Nat.le_of_ble_eq_true rfl⟩ (Nat.le_of_ble_eq_true rfl) ?_
  obtain ⟨o3, e4, h⟩ := bnd_p h
  refine z_exS (rest := []) (ws' := [(q_this, .inr (11, [.ref q_town, .ref q_ahead, .ref q_kept, .int f_isKept, .ref q_past, .ref q_reason, .ref q_orders, .ref q_ways, .ref q_sheet])), (q_town, .inr (9, [.ref q_town_houses, .ref q_town_halls, .ref q_town_posts, .ref q_town_blocks, .ref q_town_kinds, .int f_town_hour, .int f_town_day, .int f_town_prankHouse, .int f_town_bells, .int f_town_echoes, .int f_town_bellPranks])), (q_town_posts, .inr (6, [.int f_town_posts_size, .ref q_town_posts_cells, .ref q_town_posts_tolds])), (q_town_posts_cells, .inl (g 0, 4, .inl a_town_posts_cells)), (q_town_posts_tolds, .inl (g 0, 4, .inl a_town_posts_tolds)), (q_town_blocks, .inl (g 0, 64, .inl a_town_blocks))]) X hE hA k_X11_demandProper (c_X11_demandProper l hfl ak av aS D g o1 o3 e4) ql_X11_X11_demandProper dX11_fits_4 bkc_nil bk_nil rfl rfl ⟨Nat.le_of_ble_eq_true rfl, Nat.le_of_ble_eq_true rfl, rfl, rfl, Nat.le_of_ble_eq_true rfl, Nat.le_of_ble_eq_true rfl⟩ (Nat.le_of_ble_eq_true rfl) (fun x5 => ?_) (fun x5 => ?_)
  · have h := brn_t h x5
    refine z_aload_n X 0 dX11_fits_7 rfl rfl ?_
    refine z_get (q0 := 0) (k := 0) (ci := 11) X IW_P iw_X11 rfl qf_X11_X11_town (by decide) dX11_fits_8 rfl rfl ?_
    obtain ⟨o6, e7, h⟩ := bnd_p h
    refine z_rdV (rest := []) (q0 := 1) (ci := 9) X IW_P k_X9_hasPrank (c_X9_hasPrank l D g q_town q_town_houses q_town_halls q_town_posts q_town_blocks q_town_kinds f_town_hour f_town_day f_town_prankHouse f_town_bells f_town_echoes f_town_bellPranks o6 e7) ql_X11_X9_hasPrank dX11_fits_11 [1] rfl rfl rfl rfl rfl rfl ⟨Nat.le_of_ble_eq_true rfl, Nat.le_of_ble_eq_true rfl, rfl, rfl, Nat.le_of_ble_eq_true rfl, Nat.le_of_ble_eq_true rfl⟩ (Nat.le_of_ble_eq_true rfl) ?_
    obtain ⟨o8, e9, h⟩ := bnd_p h
    refine z_exS (rest := []) (ws' := [(q_this, .inr (11, [.ref q_town, .ref q_ahead, .ref q_kept, .int f_isKept, .ref q_past, .ref q_reason, .ref q_orders, .ref q_ways, .ref q_sheet])), (q_town, .inr (9, [.ref q_town_houses, .ref q_town_halls, .ref q_town_posts, .ref q_town_blocks, .ref q_town_kinds, .int f_town_hour, .int f_town_day, .int f_town_prankHouse, .int f_town_bells, .int f_town_echoes, .int f_town_bellPranks])), (q_town_posts, .inr (6, [.int f_town_posts_size, .ref q_town_posts_cells, .ref q_town_posts_tolds])), (q_town_posts_cells, .inl (g 0, 4, .inl a_town_posts_cells)), (q_town_posts_tolds, .inl (g 0, 4, .inl a_town_posts_tolds)), (q_town_blocks, .inl (g 0, 64, .inl a_town_blocks))]) X hE hA k_X11_demandFound (c_X11_demandFound l hfl ak av aS D g o6 o8 e9) ql_X11_X11_demandFound dX11_fits_14 bkc_nil bk_nil rfl rfl ⟨Nat.le_of_ble_eq_true rfl, Nat.le_of_ble_eq_true rfl, rfl, rfl, Nat.le_of_ble_eq_true rfl, Nat.le_of_ble_eq_true rfl⟩ (Nat.le_of_ble_eq_true rfl) (fun x10 => ?_) (fun x10 => ?_)
    · have h := brn_t h x10
      refine z_aload_n X 0 dX11_fits_17 rfl rfl ?_
      refine z_get (q0 := 0) (k := 0) (ci := 11) X IW_P iw_X11 rfl qf_X11_X11_town (by decide) dX11_fits_18 rfl rfl ?_
      refine z_iload_n X 1 dX11_fits_21 rfl rfl ?_
      obtain ⟨o11, e12, h⟩ := bnd_p h
      refine z_rdV (rest := []) (q0 := 1) (ci := 9) X IW_P k_X9_canBeFrom (c_X9_canBeFrom l D g q_town q_town_houses q_town_halls q_town_posts q_town_blocks q_town_kinds q_town_posts_cells q_town_posts_tolds p1 f_town_hour f_town_day f_town_prankHouse f_town_bells f_town_echoes f_town_bellPranks f_town_posts_size a_town_posts_cells a_town_posts_tolds a_town_blocks o11 e12) ql_X11_X9_canBeFrom dX11_fits_22 [1, 2, 3, 4, 5] rfl rfl rfl rfl rfl rfl ⟨Nat.le_of_ble_eq_true rfl, Nat.le_of_ble_eq_true rfl, rfl, rfl, Nat.le_of_ble_eq_true rfl, Nat.le_of_ble_eq_true rfl⟩ (Nat.le_of_ble_eq_true rfl) ?_
      obtain ⟨e13, h⟩ := grd_p h
      cases h
      exact z_zretX X hQ (Nat.le_of_ble_eq_true rfl) (Nat.le_of_ble_eq_true rfl) hr dX11_fits_25 (nar_bool e13)
    · have h := brn_f h x10
      cases h
      exact zt_out (lv := [(0, .ref q_this), (1, .int p1)]) X hno hQ x10 (Nat.le_of_ble_eq_true rfl) (Nat.le_of_ble_eq_true rfl)
  · have h := brn_f h x5
    cases h
    exact zt_out (lv := [(0, .ref q_this), (1, .int p1)]) X hno hQ x5 (Nat.le_of_ble_eq_true rfl) (Nat.le_of_ble_eq_true rfl)

def F_X11_fitting (p1 : Int32) (f_town_prankHouse : Int32) (f_town_posts_size : Int32) (a_town_posts_cells : Nat → Int32) (a_town_posts_tolds : Nat → Int32) (a_town_blocks : Nat → Int32) : Option (Nat × Int32) :=
  bnd (F_X9_hasPrank f_town_prankHouse) (fun o1 => bnd (F_X11_demandFound o1) (fun o3 => brn (o3 = 0) (brn (p1 = 0) (bnd (F_X9_countFits f_town_posts_size a_town_posts_cells a_town_posts_tolds a_town_blocks) (fun o6 => some (0, o6))) (bnd (F_X9_countFitsAround f_town_posts_size a_town_posts_cells a_town_posts_tolds a_town_blocks) (fun o8 => some (0, o8)))) (some (o3, (0 : Int32)))))
theorem dX11_fitting_0 : decode cX11_fitting 0 = .ok (.aload_n 0, 1) := by decide +kernel
theorem dX11_fitting_1 : decode cX11_fitting 1 = .ok (.getfield 10, 3) := by decide +kernel
theorem dX11_fitting_4 : decode cX11_fitting 4 = .ok (.invokevirtual 230, 3) := by decide +kernel
theorem dX11_fitting_7 : decode cX11_fitting 7 = .ok (.invokestatic 169, 3) := by decide +kernel
theorem dX11_fitting_10 : decode cX11_fitting 10 = .ok (.iload_n 1, 1) := by decide +kernel
theorem dX11_fitting_11 : decode cX11_fitting 11 = .ok (.ifCond .eq 13, 3) := by decide +kernel
theorem dX11_fitting_14 : decode cX11_fitting 14 = .ok (.aload_n 0, 1) := by decide +kernel
theorem dX11_fitting_15 : decode cX11_fitting 15 = .ok (.getfield 10, 3) := by decide +kernel
theorem dX11_fitting_18 : decode cX11_fitting 18 = .ok (.invokevirtual 237, 3) := by decide +kernel
theorem dX11_fitting_21 : decode cX11_fitting 21 = .ok (.goto 10, 3) := by decide +kernel
theorem dX11_fitting_24 : decode cX11_fitting 24 = .ok (.aload_n 0, 1) := by decide +kernel
theorem dX11_fitting_25 : decode cX11_fitting 25 = .ok (.getfield 10, 3) := by decide +kernel
theorem dX11_fitting_28 : decode cX11_fitting 28 = .ok (.invokevirtual 218, 3) := by decide +kernel
theorem dX11_fitting_31 : decode cX11_fitting 31 = .ok (.ireturn, 1) := by decide +kernel
theorem k_X11_fitting : cardV yX11_fitting (Cond.code yX11_fitting cX11_fitting 2 (some .int)) 1 := ⟨⟨qi_X11_fitting, qv_X11_fitting⟩, qc_X11_fitting, qn_X11, by decide +kernel, by decide +kernel, by decide +kernel⟩
set_option maxHeartbeats 4000000 in
set_option maxRecDepth 100000 in
theorem c_X11_fitting (l : Launch) (hfl : l.stackTraces = false) (ak av : Nat → Nat) (aS : Nat) (D : va_G) (g : Nat → ClassId) (q_this q_town q_ahead q_kept q_past q_reason q_orders q_ways q_sheet q_town_houses q_town_halls q_town_posts q_town_blocks q_town_kinds q_town_posts_cells q_town_posts_tolds : Nat) (p1 : Int32) (f_isKept : Int32) (f_town_hour : Int32) (f_town_day : Int32) (f_town_prankHouse : Int32) (f_town_bells : Int32) (f_town_echoes : Int32) (f_town_bellPranks : Int32) (f_town_posts_size : Int32) (a_town_posts_cells : Nat → Int32) (a_town_posts_tolds : Nat → Int32) (a_town_blocks : Nat → Int32) (o : Nat × Int32) (h : F_X11_fitting p1 f_town_prankHouse f_town_posts_size a_town_posts_cells a_town_posts_tolds a_town_blocks = some o) : MX l yX11_fitting (Cond.code yX11_fitting cX11_fitting 2 (some .int)) { frames := 8, cells := 1, slots := 6, locals := 152 } ak av aS D g [.ref q_this, .int p1] [(q_this, .inr (11, [.ref q_town, .ref q_ahead, .ref q_kept, .int f_isKept, .ref q_past, .ref q_reason, .ref q_orders, .ref q_ways, .ref q_sheet])), (q_town, .inr (9, [.ref q_town_houses, .ref q_town_halls, .ref q_town_posts, .ref q_town_blocks, .ref q_town_kinds, .int f_town_hour, .int f_town_day, .int f_town_prankHouse, .int f_town_bells, .int f_town_echoes, .int f_town_bellPranks])), (q_town_posts, .inr (6, [.int f_town_posts_size, .ref q_town_posts_cells, .ref q_town_posts_tolds])), (q_town_posts_cells, .inl (g 0, 4, .inl a_town_posts_cells)), (q_town_posts_tolds, .inl (g 0, 4, .inl a_town_posts_tolds)), (q_town_blocks, .inl (g 0, 64, .inl a_town_blocks))] o.1 (some (.int o.2)) [(q_this, .inr (11, [.ref q_town, .ref q_ahead, .ref q_kept, .int f_isKept, .ref q_past, .ref q_reason, .ref q_orders, .ref q_ways, .ref q_sheet])), (q_town, .inr (9, [.ref q_town_houses, .ref q_town_halls, .ref q_town_posts, .ref q_town_blocks, .ref q_town_kinds, .int f_town_hour, .int f_town_day, .int f_town_prankHouse, .int f_town_bells, .int f_town_echoes, .int f_town_bellPranks])), (q_town_posts, .inr (6, [.int f_town_posts_size, .ref q_town_posts_cells, .ref q_town_posts_tolds])), (q_town_posts_cells, .inl (g 0, 4, .inl a_town_posts_cells)), (q_town_posts_tolds, .inl (g 0, 4, .inl a_town_posts_tolds)), (q_town_blocks, .inl (g 0, 64, .inl a_town_blocks))] 1 6 := by
  refine z_ex_start (by decide) (Nat.le_of_ble_eq_true rfl) ?_
  intro p e s m args below meth c Q A X hr hE hA hno hQ
  refine z_lv (lv' := [(0, .ref q_this), (1, .int p1)]) rfl ?_
  refine z_aload_n X 0 dX11_fitting_0 rfl rfl ?_
  refine z_get (q0 := 0) (k := 0) (ci := 11) X IW_P iw_X11 rfl qf_X11_X11_town (by decide) dX11_fitting_1 rfl rfl ?_
  obtain ⟨o1, e2, h⟩ := bnd_p h
  refine z_rdV (rest := []) (q0 := 1) (ci := 9) X IW_P k_X9_hasPrank (c_X9_hasPrank l D g q_town q_town_houses q_town_halls q_town_posts q_town_blocks q_town_kinds f_town_hour f_town_day f_town_prankHouse f_town_bells f_town_echoes f_town_bellPranks o1 e2) ql_X11_X9_hasPrank dX11_fitting_4 [1] rfl rfl rfl rfl rfl rfl ⟨Nat.le_of_ble_eq_true rfl, Nat.le_of_ble_eq_true rfl, rfl, rfl, Nat.le_of_ble_eq_true rfl, Nat.le_of_ble_eq_true rfl⟩ (Nat.le_of_ble_eq_true rfl) ?_
  obtain ⟨o3, e4, h⟩ := bnd_p h
  refine z_exS (rest := []) (ws' := [(q_this, .inr (11, [.ref q_town, .ref q_ahead, .ref q_kept, .int f_isKept, .ref q_past, .ref q_reason, .ref q_orders, .ref q_ways, .ref q_sheet])), (q_town, .inr (9, [.ref q_town_houses, .ref q_town_halls, .ref q_town_posts, .ref q_town_blocks, .ref q_town_kinds, .int f_town_hour, .int f_town_day, .int f_town_prankHouse, .int f_town_bells, .int f_town_echoes, .int f_town_bellPranks])), (q_town_posts, .inr (6, [.int f_town_posts_size, .ref q_town_posts_cells, .ref q_town_posts_tolds])), (q_town_posts_cells, .inl (g 0, 4, .inl a_town_posts_cells)), (q_town_posts_tolds, .inl (g 0, 4, .inl a_town_posts_tolds)), (q_town_blocks, .inl (g 0, 64, .inl a_town_blocks))]) X hE hA k_X11_demandFound (c_X11_demandFound l hfl ak av aS D g o1 o3 e4) ql_X11_X11_demandFound dX11_fitting_7 bkc_nil bk_nil rfl rfl ⟨Nat.le_of_ble_eq_true rfl, Nat.le_of_ble_eq_true rfl, rfl, rfl, Nat.le_of_ble_eq_true rfl, Nat.le_of_ble_eq_true rfl⟩ (Nat.le_of_ble_eq_true rfl) (fun x5 => ?_) (fun x5 => ?_)
  · have h := brn_t h x5
    refine z_iload_n X 1 dX11_fitting_10 rfl rfl ?_
    refine z_if_eq X 24 dX11_fitting_11 (by decide) h (fun _ h => ?_) (fun _ h => ?_)
    · refine z_aload_n X 0 dX11_fitting_24 rfl rfl ?_
      refine z_get (q0 := 0) (k := 0) (ci := 11) X IW_P iw_X11 rfl qf_X11_X11_town (by decide) dX11_fitting_25 rfl rfl ?_
      obtain ⟨o6, e7, h⟩ := bnd_p h
      refine z_rdV (rest := []) (q0 := 1) (ci := 9) X IW_P k_X9_countFits (c_X9_countFits l D g q_town q_town_houses q_town_halls q_town_posts q_town_blocks q_town_kinds q_town_posts_cells q_town_posts_tolds f_town_hour f_town_day f_town_prankHouse f_town_bells f_town_echoes f_town_bellPranks f_town_posts_size a_town_posts_cells a_town_posts_tolds a_town_blocks o6 e7) ql_X11_X9_countFits dX11_fitting_28 [1, 2, 3, 4, 5] rfl rfl rfl rfl rfl rfl ⟨Nat.le_of_ble_eq_true rfl, Nat.le_of_ble_eq_true rfl, rfl, rfl, Nat.le_of_ble_eq_true rfl, Nat.le_of_ble_eq_true rfl⟩ (Nat.le_of_ble_eq_true rfl) ?_
      cases h
      exact z_iretX X hQ (Nat.le_of_ble_eq_true rfl) (Nat.le_of_ble_eq_true rfl) hr dX11_fitting_31
    · refine z_aload_n X 0 dX11_fitting_14 rfl rfl ?_
      refine z_get (q0 := 0) (k := 0) (ci := 11) X IW_P iw_X11 rfl qf_X11_X11_town (by decide) dX11_fitting_15 rfl rfl ?_
      obtain ⟨o8, e9, h⟩ := bnd_p h
      refine z_rdV (rest := []) (q0 := 1) (ci := 9) X IW_P k_X9_countFitsAround (c_X9_countFitsAround l D g q_town q_town_houses q_town_halls q_town_posts q_town_blocks q_town_kinds q_town_posts_cells q_town_posts_tolds f_town_hour f_town_day f_town_prankHouse f_town_bells f_town_echoes f_town_bellPranks f_town_posts_size a_town_posts_cells a_town_posts_tolds a_town_blocks o8 e9) ql_X11_X9_countFitsAround dX11_fitting_18 [1, 2, 3, 4, 5] rfl rfl rfl rfl rfl rfl ⟨Nat.le_of_ble_eq_true rfl, Nat.le_of_ble_eq_true rfl, rfl, rfl, Nat.le_of_ble_eq_true rfl, Nat.le_of_ble_eq_true rfl⟩ (Nat.le_of_ble_eq_true rfl) ?_
      refine z_goto X 31 dX11_fitting_21 (by decide) ?_
      cases h
      exact z_iretX X hQ (Nat.le_of_ble_eq_true rfl) (Nat.le_of_ble_eq_true rfl) hr dX11_fitting_31
  · have h := brn_f h x5
    cases h
    exact zt_out (lv := [(0, .ref q_this), (1, .int p1)]) X hno hQ x5 (Nat.le_of_ble_eq_true rfl) (Nat.le_of_ble_eq_true rfl)

def J_X11_fix_29 (p1 : Int32) (f_town_prankHouse : Int32) (f_town_posts_size : Int32) (a_town_posts_cells : Nat → Int32) (a_town_posts_tolds : Nat → Int32) (a_town_blocks : Nat → Int32) (t0 : Int32) (x2 : Int32) : Option (Nat × Int32) :=
  bnd (F_X11_demandFound t0) (fun o8 => brn (o8 = 0) (some (0, x2)) (some (o8, (0 : Int32))))

def F_X11_fix (p1 : Int32) (f_town_prankHouse : Int32) (f_town_posts_size : Int32) (a_town_posts_cells : Nat → Int32) (a_town_posts_tolds : Nat → Int32) (a_town_blocks : Nat → Int32) : Option (Nat × Int32) :=
  bnd (F_X9_hasPrank f_town_prankHouse) (fun o1 => bnd (F_X11_demandFound o1) (fun o3 => brn (o3 = 0) (bnd (F_X9_fitAt p1 f_town_posts_size a_town_posts_cells a_town_posts_tolds a_town_blocks) (fun o6 => brn (o6 = ((-1) : Int32)) (J_X11_fix_29 p1 f_town_prankHouse f_town_posts_size a_town_posts_cells a_town_posts_tolds a_town_blocks (0 : Int32) o6) (J_X11_fix_29 p1 f_town_prankHouse f_town_posts_size a_town_posts_cells a_town_posts_tolds a_town_blocks (1 : Int32) o6))) (some (o3, (0 : Int32)))))
theorem dX11_fix_0 : decode cX11_fix 0 = .ok (.aload_n 0, 1) := by decide +kernel
theorem dX11_fix_1 : decode cX11_fix 1 = .ok (.getfield 10, 3) := by decide +kernel
theorem dX11_fix_4 : decode cX11_fix 4 = .ok (.invokevirtual 230, 3) := by decide +kernel
theorem dX11_fix_7 : decode cX11_fix 7 = .ok (.invokestatic 169, 3) := by decide +kernel
theorem dX11_fix_10 : decode cX11_fix 10 = .ok (.aload_n 0, 1) := by decide +kernel
theorem dX11_fix_11 : decode cX11_fix 11 = .ok (.getfield 10, 3) := by decide +kernel
theorem dX11_fix_14 : decode cX11_fix 14 = .ok (.iload_n 1, 1) := by decide +kernel
theorem dX11_fix_15 : decode cX11_fix 15 = .ok (.invokevirtual 240, 3) := by decide +kernel
theorem dX11_fix_18 : decode cX11_fix 18 = .ok (.istore_n 2, 1) := by decide +kernel
theorem dX11_fix_19 : decode cX11_fix 19 = .ok (.iload_n 2, 1) := by decide +kernel
theorem dX11_fix_20 : decode cX11_fix 20 = .ok (.iconst (-1), 1) := by decide +kernel
theorem dX11_fix_21 : decode cX11_fix 21 = .ok (.if_icmp .eq 7, 3) := by decide +kernel
theorem dX11_fix_24 : decode cX11_fix 24 = .ok (.iconst 1, 1) := by decide +kernel
theorem dX11_fix_25 : decode cX11_fix 25 = .ok (.goto 4, 3) := by decide +kernel
theorem dX11_fix_28 : decode cX11_fix 28 = .ok (.iconst 0, 1) := by decide +kernel
theorem dX11_fix_29 : decode cX11_fix 29 = .ok (.invokestatic 169, 3) := by decide +kernel
theorem dX11_fix_32 : decode cX11_fix 32 = .ok (.iload_n 2, 1) := by decide +kernel
theorem dX11_fix_33 : decode cX11_fix 33 = .ok (.ireturn, 1) := by decide +kernel
theorem k_X11_fix : cardV yX11_fix (Cond.code yX11_fix cX11_fix 3 (some .int)) 1 := ⟨⟨qi_X11_fix, qv_X11_fix⟩, qc_X11_fix, qn_X11, by decide +kernel, by decide +kernel, by decide +kernel⟩
set_option maxHeartbeats 4000000 in
set_option maxRecDepth 100000 in
theorem c_X11_fix (l : Launch) (hfl : l.stackTraces = false) (ak av : Nat → Nat) (aS : Nat) (D : va_G) (g : Nat → ClassId) (q_this q_town q_ahead q_kept q_past q_reason q_orders q_ways q_sheet q_town_houses q_town_halls q_town_posts q_town_blocks q_town_kinds q_town_posts_cells q_town_posts_tolds : Nat) (p1 : Int32) (f_isKept : Int32) (f_town_hour : Int32) (f_town_day : Int32) (f_town_prankHouse : Int32) (f_town_bells : Int32) (f_town_echoes : Int32) (f_town_bellPranks : Int32) (f_town_posts_size : Int32) (a_town_posts_cells : Nat → Int32) (a_town_posts_tolds : Nat → Int32) (a_town_blocks : Nat → Int32) (o : Nat × Int32) (h : F_X11_fix p1 f_town_prankHouse f_town_posts_size a_town_posts_cells a_town_posts_tolds a_town_blocks = some o) : MX l yX11_fix (Cond.code yX11_fix cX11_fix 3 (some .int)) { frames := 8, cells := 2, slots := 12, locals := 130 } ak av aS D g [.ref q_this, .int p1] [(q_this, .inr (11, [.ref q_town, .ref q_ahead, .ref q_kept, .int f_isKept, .ref q_past, .ref q_reason, .ref q_orders, .ref q_ways, .ref q_sheet])), (q_town, .inr (9, [.ref q_town_houses, .ref q_town_halls, .ref q_town_posts, .ref q_town_blocks, .ref q_town_kinds, .int f_town_hour, .int f_town_day, .int f_town_prankHouse, .int f_town_bells, .int f_town_echoes, .int f_town_bellPranks])), (q_town_posts, .inr (6, [.int f_town_posts_size, .ref q_town_posts_cells, .ref q_town_posts_tolds])), (q_town_posts_cells, .inl (g 0, 4, .inl a_town_posts_cells)), (q_town_posts_tolds, .inl (g 0, 4, .inl a_town_posts_tolds)), (q_town_blocks, .inl (g 0, 64, .inl a_town_blocks))] o.1 (some (.int o.2)) [(q_this, .inr (11, [.ref q_town, .ref q_ahead, .ref q_kept, .int f_isKept, .ref q_past, .ref q_reason, .ref q_orders, .ref q_ways, .ref q_sheet])), (q_town, .inr (9, [.ref q_town_houses, .ref q_town_halls, .ref q_town_posts, .ref q_town_blocks, .ref q_town_kinds, .int f_town_hour, .int f_town_day, .int f_town_prankHouse, .int f_town_bells, .int f_town_echoes, .int f_town_bellPranks])), (q_town_posts, .inr (6, [.int f_town_posts_size, .ref q_town_posts_cells, .ref q_town_posts_tolds])), (q_town_posts_cells, .inl (g 0, 4, .inl a_town_posts_cells)), (q_town_posts_tolds, .inl (g 0, 4, .inl a_town_posts_tolds)), (q_town_blocks, .inl (g 0, 64, .inl a_town_blocks))] 2 12 := by
  refine z_ex_start (by decide) (Nat.le_of_ble_eq_true rfl) ?_
  intro p e s m args below meth c Q A X hr hE hA hno hQ
  refine z_lv (lv' := [(0, .ref q_this), (1, .int p1)]) rfl ?_
  have H29 : ∀ (t0 : Int32) (x2 : Int32), J_X11_fix_29 p1 f_town_prankHouse f_town_posts_size a_town_posts_cells a_town_posts_tolds a_town_blocks t0 x2 = some o → Z p l e { frames := 8, cells := 2, slots := 12, locals := 130 } s m args below meth c Q 3 1 6 (IW D A s [(q_this, .inr (11, [.ref q_town, .ref q_ahead, .ref q_kept, .int f_isKept, .ref q_past, .ref q_reason, .ref q_orders, .ref q_ways, .ref q_sheet])), (q_town, .inr (9, [.ref q_town_houses, .ref q_town_halls, .ref q_town_posts, .ref q_town_blocks, .ref q_town_kinds, .int f_town_hour, .int f_town_day, .int f_town_prankHouse, .int f_town_bells, .int f_town_echoes, .int f_town_bellPranks])), (q_town_posts, .inr (6, [.int f_town_posts_size, .ref q_town_posts_cells, .ref q_town_posts_tolds])), (q_town_posts_cells, .inl (g 0, 4, .inl a_town_posts_cells)), (q_town_posts_tolds, .inl (g 0, 4, .inl a_town_posts_tolds)), (q_town_blocks, .inl (g 0, 64, .inl a_town_blocks))]) 29 [(2, .int x2)] [.int t0] := by
    intro t0 x2 h
    obtain ⟨o8, e9, h⟩ := bnd_p h
    refine z_exS (rest := []) (ws' := [(q_this, .inr (11, [.ref q_town, .ref q_ahead, .ref q_kept, .int f_isKept, .ref q_past, .ref q_reason, .ref q_orders, .ref q_ways, .ref q_sheet])), (q_town, .inr (9, [.ref q_town_houses, .ref q_town_halls, .ref q_town_posts, .ref q_town_blocks, .ref q_town_kinds, .int f_town_hour, .int f_town_day, .int f_town_prankHouse, .int f_town_bells, .int f_town_echoes, .int f_town_bellPranks])), (q_town_posts, .inr (6, [.int f_town_posts_size, .ref q_town_posts_cells, .ref q_town_posts_tolds])), (q_town_posts_cells, .inl (g 0, 4, .inl a_town_posts_cells)), (q_town_posts_tolds, .inl (g 0, 4, .inl a_town_posts_tolds)), (q_town_blocks, .inl (g 0, 64, .inl a_town_blocks))]) X hE hA k_X11_demandFound (c_X11_demandFound l hfl ak av aS D g t0 o8 e9) ql_X11_X11_demandFound dX11_fix_29 bkc_nil bk_nil rfl rfl ⟨Nat.le_of_ble_eq_true rfl, Nat.le_of_ble_eq_true rfl, rfl, rfl, Nat.le_of_ble_eq_true rfl, Nat.le_of_ble_eq_true rfl⟩ (Nat.le_of_ble_eq_true rfl) (fun x10 => ?_) (fun x10 => ?_)
    · have h := brn_t h x10
      refine z_iload_n X 0 dX11_fix_32 rfl rfl ?_
      cases h
      exact z_iretX X hQ (Nat.le_of_ble_eq_true rfl) (Nat.le_of_ble_eq_true rfl) hr dX11_fix_33
    · have h := brn_f h x10
      cases h
      exact zt_out (lv := [(2, .int x2)]) X hno hQ x10 (Nat.le_of_ble_eq_true rfl) (Nat.le_of_ble_eq_true rfl)
  refine z_aload_n X 0 dX11_fix_0 rfl rfl ?_
  refine z_get (q0 := 0) (k := 0) (ci := 11) X IW_P iw_X11 rfl qf_X11_X11_town (by decide) dX11_fix_1 rfl rfl ?_
  obtain ⟨o1, e2, h⟩ := bnd_p h
  refine z_rdV (rest := []) (q0 := 1) (ci := 9) X IW_P k_X9_hasPrank (c_X9_hasPrank l D g q_town q_town_houses q_town_halls q_town_posts q_town_blocks q_town_kinds f_town_hour f_town_day f_town_prankHouse f_town_bells f_town_echoes f_town_bellPranks o1 e2) ql_X11_X9_hasPrank dX11_fix_4 [1] rfl rfl rfl rfl rfl rfl ⟨Nat.le_of_ble_eq_true rfl, Nat.le_of_ble_eq_true rfl, rfl, rfl, Nat.le_of_ble_eq_true rfl, Nat.le_of_ble_eq_true rfl⟩ (Nat.le_of_ble_eq_true rfl) ?_
  obtain ⟨o3, e4, h⟩ := bnd_p h
  refine z_exS (rest := []) (ws' := [(q_this, .inr (11, [.ref q_town, .ref q_ahead, .ref q_kept, .int f_isKept, .ref q_past, .ref q_reason, .ref q_orders, .ref q_ways, .ref q_sheet])), (q_town, .inr (9, [.ref q_town_houses, .ref q_town_halls, .ref q_town_posts, .ref q_town_blocks, .ref q_town_kinds, .int f_town_hour, .int f_town_day, .int f_town_prankHouse, .int f_town_bells, .int f_town_echoes, .int f_town_bellPranks])), (q_town_posts, .inr (6, [.int f_town_posts_size, .ref q_town_posts_cells, .ref q_town_posts_tolds])), (q_town_posts_cells, .inl (g 0, 4, .inl a_town_posts_cells)), (q_town_posts_tolds, .inl (g 0, 4, .inl a_town_posts_tolds)), (q_town_blocks, .inl (g 0, 64, .inl a_town_blocks))]) X hE hA k_X11_demandFound (c_X11_demandFound l hfl ak av aS D g o1 o3 e4) ql_X11_X11_demandFound dX11_fix_7 bkc_nil bk_nil rfl rfl ⟨Nat.le_of_ble_eq_true rfl, Nat.le_of_ble_eq_true rfl, rfl, rfl, Nat.le_of_ble_eq_true rfl, Nat.le_of_ble_eq_true rfl⟩ (Nat.le_of_ble_eq_true rfl) (fun x5 => ?_) (fun x5 => ?_)
  · have h := brn_t h x5
    refine z_aload_n X 0 dX11_fix_10 rfl rfl ?_
    refine z_get (q0 := 0) (k := 0) (ci := 11) X IW_P iw_X11 rfl qf_X11_X11_town (by decide) dX11_fix_11 rfl rfl ?_
    refine z_iload_n X 1 dX11_fix_14 rfl rfl ?_
    obtain ⟨o6, e7, h⟩ := bnd_p h
    refine z_rdV (rest := []) (q0 := 1) (ci := 9) X IW_P k_X9_fitAt (c_X9_fitAt l D g q_town q_town_houses q_town_halls q_town_posts q_town_blocks q_town_kinds q_town_posts_cells q_town_posts_tolds p1 f_town_hour f_town_day f_town_prankHouse f_town_bells f_town_echoes f_town_bellPranks f_town_posts_size a_town_posts_cells a_town_posts_tolds a_town_blocks o6 e7) ql_X11_X9_fitAt dX11_fix_15 [1, 2, 3, 4, 5] rfl rfl rfl rfl rfl rfl ⟨Nat.le_of_ble_eq_true rfl, Nat.le_of_ble_eq_true rfl, rfl, rfl, Nat.le_of_ble_eq_true rfl, Nat.le_of_ble_eq_true rfl⟩ (Nat.le_of_ble_eq_true rfl) ?_
    refine z_istore_n X [(2, .int o6), (0, .ref q_this), (1, .int p1)] dX11_fix_18 rfl (by decide) rfl ?_
    refine z_iload_n X 0 dX11_fix_19 rfl rfl ?_
    refine z_iconst X ((-1) : Int32) dX11_fix_20 (by decide) ?_
    refine z_icmp_eq X 28 dX11_fix_21 (by decide) h (fun _ h => ?_) (fun _ h => ?_)
    · refine z_iconst X (0 : Int32) dX11_fix_28 (by decide) ?_
      refine z_widen (k := 1) (n := 6) (Nat.le_of_ble_eq_true rfl) (Nat.le_of_ble_eq_true rfl) ?_
      refine z_sub (lv' := [(2, .int o6)]) [0] rfl ?_
      exact H29 (0 : Int32) o6 h
    · refine z_iconst X (1 : Int32) dX11_fix_24 (by decide) ?_
      refine z_goto X 29 dX11_fix_25 (by decide) ?_
      refine z_widen (k := 1) (n := 6) (Nat.le_of_ble_eq_true rfl) (Nat.le_of_ble_eq_true rfl) ?_
      refine z_sub (lv' := [(2, .int o6)]) [0] rfl ?_
      exact H29 (1 : Int32) o6 h
  · have h := brn_f h x5
    cases h
    exact zt_out (lv := [(0, .ref q_this), (1, .int p1)]) X hno hQ x5 (Nat.le_of_ble_eq_true rfl) (Nat.le_of_ble_eq_true rfl)

def J_X11_apart_19 (p1 : Int32) (p2 : Int32) (t0 : Int32) : Option (Nat × Int32) :=
  bnd (F_X11_demandProper t0) (fun o3 => brn (o3 = 0) (bnd (F_X0_distance p1 p2) (fun o6 => some (0, o6))) (some (o3, (0 : Int32))))

def J_X11_apart_18 (p1 : Int32) (p2 : Int32) : Option (Nat × Int32) :=
  J_X11_apart_19 p1 p2 (0 : Int32)

def F_X11_apart (p1 : Int32) (p2 : Int32) : Option (Nat × Int32) :=
  bnd (F_X0_isCell p1) (fun o1 => brn (o1 = 0) (J_X11_apart_18 p1 p2) (bnd (F_X0_isCell p2) (fun o8 => brn (o8 = 0) (J_X11_apart_18 p1 p2) (J_X11_apart_19 p1 p2 (1 : Int32)))))
theorem dX11_apart_0 : decode cX11_apart 0 = .ok (.iload_n 1, 1) := by decide +kernel
theorem dX11_apart_1 : decode cX11_apart 1 = .ok (.invokestatic 225, 3) := by decide +kernel
theorem dX11_apart_4 : decode cX11_apart 4 = .ok (.ifCond .eq 14, 3) := by decide +kernel
theorem dX11_apart_7 : decode cX11_apart 7 = .ok (.iload_n 2, 1) := by decide +kernel
theorem dX11_apart_8 : decode cX11_apart 8 = .ok (.invokestatic 225, 3) := by decide +kernel
theorem dX11_apart_11 : decode cX11_apart 11 = .ok (.ifCond .eq 7, 3) := by decide +kernel
theorem dX11_apart_14 : decode cX11_apart 14 = .ok (.iconst 1, 1) := by decide +kernel
theorem dX11_apart_15 : decode cX11_apart 15 = .ok (.goto 4, 3) := by decide +kernel
theorem dX11_apart_18 : decode cX11_apart 18 = .ok (.iconst 0, 1) := by decide +kernel
theorem dX11_apart_19 : decode cX11_apart 19 = .ok (.invokestatic 124, 3) := by decide +kernel
theorem dX11_apart_22 : decode cX11_apart 22 = .ok (.iload_n 1, 1) := by decide +kernel
theorem dX11_apart_23 : decode cX11_apart 23 = .ok (.iload_n 2, 1) := by decide +kernel
theorem dX11_apart_24 : decode cX11_apart 24 = .ok (.invokestatic 243, 3) := by decide +kernel
theorem dX11_apart_27 : decode cX11_apart 27 = .ok (.ireturn, 1) := by decide +kernel
theorem k_X11_apart : cardV yX11_apart (Cond.code yX11_apart cX11_apart 3 (some .int)) 2 := ⟨⟨qi_X11_apart, qv_X11_apart⟩, qc_X11_apart, qn_X11, by decide +kernel, by decide +kernel, by decide +kernel⟩
set_option maxHeartbeats 4000000 in
set_option maxRecDepth 100000 in
theorem c_X11_apart (l : Launch) (hfl : l.stackTraces = false) (ak av : Nat → Nat) (aS : Nat) (D : va_G) (g : Nat → ClassId) (q_this : Nat) (p1 p2 : Int32) (o : Nat × Int32) (h : F_X11_apart p1 p2 = some o) : MX l yX11_apart (Cond.code yX11_apart cX11_apart 3 (some .int)) { frames := 8, cells := 1, slots := 6, locals := 130 } ak av aS D g [.ref q_this, .int p1, .int p2] [] o.1 (some (.int o.2)) [] 1 6 := by
  refine z_ex_start (by decide) (Nat.le_of_ble_eq_true rfl) ?_
  intro p e s m args below meth c Q A X hr hE hA hno hQ
  refine z_lv (lv' := [(0, .ref q_this), (1, .int p1), (2, .int p2)]) rfl ?_
  have H19 : ∀ (t0 : Int32), J_X11_apart_19 p1 p2 t0 = some o → Z p l e { frames := 8, cells := 1, slots := 6, locals := 130 } s m args below meth c Q 3 0 0 (IW D A s []) 19 [(1, .int p1), (2, .int p2)] [.int t0] := by
    intro t0 h
    obtain ⟨o3, e4, h⟩ := bnd_p h
    refine z_exS (rest := []) (ws' := []) X hE hA k_X11_demandProper (c_X11_demandProper l hfl ak av aS D g t0 o3 e4) ql_X11_X11_demandProper dX11_apart_19 bkc_nil bk_nil rfl rfl ⟨Nat.le_of_ble_eq_true rfl, Nat.le_of_ble_eq_true rfl, rfl, rfl, Nat.le_of_ble_eq_true rfl, Nat.le_of_ble_eq_true rfl⟩ (Nat.le_of_ble_eq_true rfl) (fun x5 => ?_) (fun x5 => ?_)
    · have h := brn_t h x5
      refine z_iload_n X 0 dX11_apart_22 rfl rfl ?_
      refine z_iload_n X 1 dX11_apart_23 rfl rfl ?_
      obtain ⟨o6, e7, h⟩ := bnd_p h
      refine z_rdS (rest := []) X IW_P k_X0_distance (c_X0_distance l D g p1 p2 o6 e7) ql_X11_X0_distance dX11_apart_24 [] rfl rfl rfl ⟨Nat.le_of_ble_eq_true rfl, Nat.le_of_ble_eq_true rfl, rfl, rfl, Nat.le_of_ble_eq_true rfl, Nat.le_of_ble_eq_true rfl⟩ (Nat.le_of_ble_eq_true rfl) ?_
      cases h
      exact z_iretX X hQ (Nat.le_of_ble_eq_true rfl) (Nat.le_of_ble_eq_true rfl) hr dX11_apart_27
    · have h := brn_f h x5
      cases h
      exact zt_out (lv := [(1, .int p1), (2, .int p2)]) X hno hQ x5 (Nat.le_of_ble_eq_true rfl) (Nat.le_of_ble_eq_true rfl)
  have H18 : J_X11_apart_18 p1 p2 = some o → Z p l e { frames := 8, cells := 1, slots := 6, locals := 130 } s m args below meth c Q 3 0 0 (IW D A s []) 18 [(1, .int p1), (2, .int p2)] [] := by
    intro  h
    refine z_iconst X (0 : Int32) dX11_apart_18 (by decide) ?_
    refine z_widen (k := 0) (n := 0) (Nat.le_of_ble_eq_true rfl) (Nat.le_of_ble_eq_true rfl) ?_
    exact H19 (0 : Int32) h
  refine z_iload_n X 1 dX11_apart_0 rfl rfl ?_
  obtain ⟨o1, e2, h⟩ := bnd_p h
  refine z_rdS (rest := []) X IW_P k_X0_isCell (c_X0_isCell l D g p1 o1 e2) ql_X11_X0_isCell dX11_apart_1 [] rfl rfl rfl ⟨Nat.le_of_ble_eq_true rfl, Nat.le_of_ble_eq_true rfl, rfl, rfl, Nat.le_of_ble_eq_true rfl, Nat.le_of_ble_eq_true rfl⟩ (Nat.le_of_ble_eq_true rfl) ?_
  refine z_if_eq X 18 dX11_apart_4 (by decide) h (fun _ h => ?_) (fun _ h => ?_)
  · refine z_widen (k := 0) (n := 0) (Nat.le_of_ble_eq_true rfl) (Nat.le_of_ble_eq_true rfl) ?_
    refine z_sub (lv' := [(1, .int p1), (2, .int p2)]) [1, 2] rfl ?_
    exact H18  h
  · refine z_iload_n X 2 dX11_apart_7 rfl rfl ?_
    obtain ⟨o8, e9, h⟩ := bnd_p h
    refine z_rdS (rest := []) X IW_P k_X0_isCell (c_X0_isCell l D g p2 o8 e9) ql_X11_X0_isCell dX11_apart_8 [] rfl rfl rfl ⟨Nat.le_of_ble_eq_true rfl, Nat.le_of_ble_eq_true rfl, rfl, rfl, Nat.le_of_ble_eq_true rfl, Nat.le_of_ble_eq_true rfl⟩ (Nat.le_of_ble_eq_true rfl) ?_
    refine z_if_eq X 18 dX11_apart_11 (by decide) h (fun _ h => ?_) (fun _ h => ?_)
    · refine z_widen (k := 0) (n := 0) (Nat.le_of_ble_eq_true rfl) (Nat.le_of_ble_eq_true rfl) ?_
      refine z_sub (lv' := [(1, .int p1), (2, .int p2)]) [1, 2] rfl ?_
      exact H18  h
    · refine z_iconst X (1 : Int32) dX11_apart_14 (by decide) ?_
      refine z_goto X 19 dX11_apart_15 (by decide) ?_
      refine z_widen (k := 0) (n := 0) (Nat.le_of_ble_eq_true rfl) (Nat.le_of_ble_eq_true rfl) ?_
      refine z_sub (lv' := [(1, .int p1), (2, .int p2)]) [1, 2] rfl ?_
      exact H19 (1 : Int32) h

def J_X11_way_68 (p1 : Int32) (p2 : Int32) (p3 : Int32) (a_town_blocks : Nat → Int32) (t0 : Int32) (x4 : Int32) (a_ways_steps : Nat → Int32) (a_ways_queue : Nat → Int32) (a_ways_lows : Nat → Int32) : Option (Nat × Int32 × (Nat → Int32) × (Nat → Int32) × (Nat → Int32)) :=
  bnd (F_X11_demandFound t0) (fun o8 => brn (o8 = 0) (some (0, x4, a_ways_steps, a_ways_queue, a_ways_lows)) (some (o8, (0 : Int32), a_ways_steps, a_ways_queue, a_ways_lows)))

def J_X11_way_55 (p1 : Int32) (p2 : Int32) (p3 : Int32) (a_town_blocks : Nat → Int32) (t0 : Int32) (a_ways_steps : Nat → Int32) (a_ways_queue : Nat → Int32) (a_ways_lows : Nat → Int32) : Option (Nat × Int32 × (Nat → Int32) × (Nat → Int32) × (Nat → Int32)) :=
  brn (t0 = ((-1) : Int32)) (J_X11_way_68 p1 p2 p3 a_town_blocks (0 : Int32) t0 a_ways_steps a_ways_queue a_ways_lows) (J_X11_way_68 p1 p2 p3 a_town_blocks (1 : Int32) t0 a_ways_steps a_ways_queue a_ways_lows)

def J_X11_way_19 (p1 : Int32) (p2 : Int32) (p3 : Int32) (a_town_blocks : Nat → Int32) (t0 : Int32) (a_ways_steps : Nat → Int32) (a_ways_queue : Nat → Int32) (a_ways_lows : Nat → Int32) : Option (Nat × Int32 × (Nat → Int32) × (Nat → Int32) × (Nat → Int32)) :=
  bnd (F_X11_demandProper t0) (fun o3 => brn (o3 = 0) (brn (p3 = 0) (bnd (F_X10_stepsTo p1 p2 a_town_blocks a_ways_steps a_ways_queue) (fun o6 => J_X11_way_55 p1 p2 p3 a_town_blocks o6.1 o6.2.1 o6.2.2 a_ways_lows)) (bnd (F_X10_lowestTo p1 p2 a_town_blocks a_ways_lows) (fun o11 => J_X11_way_55 p1 p2 p3 a_town_blocks o11.1 a_ways_steps a_ways_queue o11.2))) (some (o3, (0 : Int32), a_ways_steps, a_ways_queue, a_ways_lows)))

def J_X11_way_18 (p1 : Int32) (p2 : Int32) (p3 : Int32) (a_town_blocks : Nat → Int32) (a_ways_steps : Nat → Int32) (a_ways_queue : Nat → Int32) (a_ways_lows : Nat → Int32) : Option (Nat × Int32 × (Nat → Int32) × (Nat → Int32) × (Nat → Int32)) :=
  J_X11_way_19 p1 p2 p3 a_town_blocks (0 : Int32) a_ways_steps a_ways_queue a_ways_lows

def F_X11_way (p1 : Int32) (p2 : Int32) (p3 : Int32) (a_town_blocks : Nat → Int32) (a_ways_steps : Nat → Int32) (a_ways_queue : Nat → Int32) (a_ways_lows : Nat → Int32) : Option (Nat × Int32 × (Nat → Int32) × (Nat → Int32) × (Nat → Int32)) :=
  bnd (F_X0_isCell p1) (fun o1 => brn (o1 = 0) (J_X11_way_18 p1 p2 p3 a_town_blocks a_ways_steps a_ways_queue a_ways_lows) (bnd (F_X0_isCell p2) (fun o13 => brn (o13 = 0) (J_X11_way_18 p1 p2 p3 a_town_blocks a_ways_steps a_ways_queue a_ways_lows) (J_X11_way_19 p1 p2 p3 a_town_blocks (1 : Int32) a_ways_steps a_ways_queue a_ways_lows))))
theorem dX11_way_0 : decode cX11_way 0 = .ok (.iload_n 1, 1) := by decide +kernel
theorem dX11_way_1 : decode cX11_way 1 = .ok (.invokestatic 225, 3) := by decide +kernel
theorem dX11_way_4 : decode cX11_way 4 = .ok (.ifCond .eq 14, 3) := by decide +kernel
theorem dX11_way_7 : decode cX11_way 7 = .ok (.iload_n 2, 1) := by decide +kernel
theorem dX11_way_8 : decode cX11_way 8 = .ok (.invokestatic 225, 3) := by decide +kernel
theorem dX11_way_11 : decode cX11_way 11 = .ok (.ifCond .eq 7, 3) := by decide +kernel
theorem dX11_way_14 : decode cX11_way 14 = .ok (.iconst 1, 1) := by decide +kernel
theorem dX11_way_15 : decode cX11_way 15 = .ok (.goto 4, 3) := by decide +kernel
theorem dX11_way_18 : decode cX11_way 18 = .ok (.iconst 0, 1) := by decide +kernel
theorem dX11_way_19 : decode cX11_way 19 = .ok (.invokestatic 124, 3) := by decide +kernel
theorem dX11_way_22 : decode cX11_way 22 = .ok (.iload_n 3, 1) := by decide +kernel
theorem dX11_way_23 : decode cX11_way 23 = .ok (.ifCond .eq 19, 3) := by decide +kernel
theorem dX11_way_26 : decode cX11_way 26 = .ok (.aload_n 0, 1) := by decide +kernel
theorem dX11_way_27 : decode cX11_way 27 = .ok (.getfield 50, 3) := by decide +kernel
theorem dX11_way_30 : decode cX11_way 30 = .ok (.aload_n 0, 1) := by decide +kernel
theorem dX11_way_31 : decode cX11_way 31 = .ok (.getfield 10, 3) := by decide +kernel
theorem dX11_way_34 : decode cX11_way 34 = .ok (.iload_n 1, 1) := by decide +kernel
theorem dX11_way_35 : decode cX11_way 35 = .ok (.iload_n 2, 1) := by decide +kernel
theorem dX11_way_36 : decode cX11_way 36 = .ok (.invokevirtual 247, 3) := by decide +kernel
theorem dX11_way_39 : decode cX11_way 39 = .ok (.goto 16, 3) := by decide +kernel
theorem dX11_way_42 : decode cX11_way 42 = .ok (.aload_n 0, 1) := by decide +kernel
theorem dX11_way_43 : decode cX11_way 43 = .ok (.getfield 50, 3) := by decide +kernel
theorem dX11_way_46 : decode cX11_way 46 = .ok (.aload_n 0, 1) := by decide +kernel
theorem dX11_way_47 : decode cX11_way 47 = .ok (.getfield 10, 3) := by decide +kernel
theorem dX11_way_50 : decode cX11_way 50 = .ok (.iload_n 1, 1) := by decide +kernel
theorem dX11_way_51 : decode cX11_way 51 = .ok (.iload_n 2, 1) := by decide +kernel
theorem dX11_way_52 : decode cX11_way 52 = .ok (.invokevirtual 251, 3) := by decide +kernel
theorem dX11_way_55 : decode cX11_way 55 = .ok (.istore 4, 2) := by decide +kernel
theorem dX11_way_57 : decode cX11_way 57 = .ok (.iload 4, 2) := by decide +kernel
theorem dX11_way_59 : decode cX11_way 59 = .ok (.iconst (-1), 1) := by decide +kernel
theorem dX11_way_60 : decode cX11_way 60 = .ok (.if_icmp .eq 7, 3) := by decide +kernel
theorem dX11_way_63 : decode cX11_way 63 = .ok (.iconst 1, 1) := by decide +kernel
theorem dX11_way_64 : decode cX11_way 64 = .ok (.goto 4, 3) := by decide +kernel
theorem dX11_way_67 : decode cX11_way 67 = .ok (.iconst 0, 1) := by decide +kernel
theorem dX11_way_68 : decode cX11_way 68 = .ok (.invokestatic 169, 3) := by decide +kernel
theorem dX11_way_71 : decode cX11_way 71 = .ok (.iload 4, 2) := by decide +kernel
theorem dX11_way_73 : decode cX11_way 73 = .ok (.ireturn, 1) := by decide +kernel
theorem k_X11_way : cardV yX11_way (Cond.code yX11_way cX11_way 5 (some .int)) 3 := ⟨⟨qi_X11_way, qv_X11_way⟩, qc_X11_way, qn_X11, by decide +kernel, by decide +kernel, by decide +kernel⟩
set_option maxHeartbeats 4000000 in
set_option maxRecDepth 100000 in
theorem c_X11_way (l : Launch) (hfl : l.stackTraces = false) (ak av : Nat → Nat) (aS : Nat) (D : va_G) (g : Nat → ClassId) (q_this q_town q_ahead q_kept q_past q_reason q_orders q_ways q_sheet q_town_houses q_town_halls q_town_posts q_town_blocks q_town_kinds q_ways_steps q_ways_queue q_ways_lows q_ways_stops : Nat) (p1 p2 p3 : Int32) (f_isKept : Int32) (f_town_hour : Int32) (f_town_day : Int32) (f_town_prankHouse : Int32) (f_town_bells : Int32) (f_town_echoes : Int32) (f_town_bellPranks : Int32) (a_town_blocks : Nat → Int32) (f_ways_stopCount : Int32) (f_ways_stepSum : Int32) (a_ways_steps : Nat → Int32) (a_ways_queue : Nat → Int32) (a_ways_lows : Nat → Int32) (o : Nat × Int32 × (Nat → Int32) × (Nat → Int32) × (Nat → Int32)) (h : F_X11_way p1 p2 p3 a_town_blocks a_ways_steps a_ways_queue a_ways_lows = some o) : MX l yX11_way (Cond.code yX11_way cX11_way 5 (some .int)) { frames := 8, cells := 2, slots := 12, locals := 140 } ak av aS D g [.ref q_this, .int p1, .int p2, .int p3] [(q_this, .inr (11, [.ref q_town, .ref q_ahead, .ref q_kept, .int f_isKept, .ref q_past, .ref q_reason, .ref q_orders, .ref q_ways, .ref q_sheet])), (q_town, .inr (9, [.ref q_town_houses, .ref q_town_halls, .ref q_town_posts, .ref q_town_blocks, .ref q_town_kinds, .int f_town_hour, .int f_town_day, .int f_town_prankHouse, .int f_town_bells, .int f_town_echoes, .int f_town_bellPranks])), (q_town_blocks, .inl (g 0, 64, .inl a_town_blocks)), (q_ways, .inr (10, [.ref q_ways_steps, .ref q_ways_queue, .ref q_ways_lows, .ref q_ways_stops, .int f_ways_stopCount, .int f_ways_stepSum])), (q_ways_steps, .inl (g 0, 64, .inl a_ways_steps)), (q_ways_queue, .inl (g 0, 64, .inl a_ways_queue)), (q_ways_lows, .inl (g 0, 64, .inl a_ways_lows))] o.1 (some (.int o.2.1)) [(q_this, .inr (11, [.ref q_town, .ref q_ahead, .ref q_kept, .int f_isKept, .ref q_past, .ref q_reason, .ref q_orders, .ref q_ways, .ref q_sheet])), (q_town, .inr (9, [.ref q_town_houses, .ref q_town_halls, .ref q_town_posts, .ref q_town_blocks, .ref q_town_kinds, .int f_town_hour, .int f_town_day, .int f_town_prankHouse, .int f_town_bells, .int f_town_echoes, .int f_town_bellPranks])), (q_town_blocks, .inl (g 0, 64, .inl a_town_blocks)), (q_ways, .inr (10, [.ref q_ways_steps, .ref q_ways_queue, .ref q_ways_lows, .ref q_ways_stops, .int f_ways_stopCount, .int f_ways_stepSum])), (q_ways_steps, .inl (g 0, 64, .inl o.2.2.1)), (q_ways_queue, .inl (g 0, 64, .inl o.2.2.2.1)), (q_ways_lows, .inl (g 0, 64, .inl o.2.2.2.2))] 2 12 := by
  refine z_ex_start (by decide) (Nat.le_of_ble_eq_true rfl) ?_
  intro p e s m args below meth c Q A X hr hE hA hno hQ
  refine z_lv (lv' := [(0, .ref q_this), (1, .int p1), (2, .int p2), (3, .int p3)]) rfl ?_
  have H68 : ∀ (t0 : Int32) (x4 : Int32) (a_ways_steps : Nat → Int32) (a_ways_queue : Nat → Int32) (a_ways_lows : Nat → Int32), J_X11_way_68 p1 p2 p3 a_town_blocks t0 x4 a_ways_steps a_ways_queue a_ways_lows = some o → Z p l e { frames := 8, cells := 2, slots := 12, locals := 140 } s m args below meth c Q 5 1 6 (IW D A s [(q_this, .inr (11, [.ref q_town, .ref q_ahead, .ref q_kept, .int f_isKept, .ref q_past, .ref q_reason, .ref q_orders, .ref q_ways, .ref q_sheet])), (q_town, .inr (9, [.ref q_town_houses, .ref q_town_halls, .ref q_town_posts, .ref q_town_blocks, .ref q_town_kinds, .int f_town_hour, .int f_town_day, .int f_town_prankHouse, .int f_town_bells, .int f_town_echoes, .int f_town_bellPranks])), (q_town_blocks, .inl (g 0, 64, .inl a_town_blocks)), (q_ways, .inr (10, [.ref q_ways_steps, .ref q_ways_queue, .ref q_ways_lows, .ref q_ways_stops, .int f_ways_stopCount, .int f_ways_stepSum])), (q_ways_steps, .inl (g 0, 64, .inl a_ways_steps)), (q_ways_queue, .inl (g 0, 64, .inl a_ways_queue)), (q_ways_lows, .inl (g 0, 64, .inl a_ways_lows))]) 68 [(4, .int x4)] [.int t0] := by
    intro t0 x4 a_ways_steps a_ways_queue a_ways_lows h
    obtain ⟨o8, e9, h⟩ := bnd_p h
    refine z_exS (rest := []) (ws' := [(q_this, .inr (11, [.ref q_town, .ref q_ahead, .ref q_kept, .int f_isKept, .ref q_past, .ref q_reason, .ref q_orders, .ref q_ways, .ref q_sheet])), (q_town, .inr (9, [.ref q_town_houses, .ref q_town_halls, .ref q_town_posts, .ref q_town_blocks, .ref q_town_kinds, .int f_town_hour, .int f_town_day, .int f_town_prankHouse, .int f_town_bells, .int f_town_echoes, .int f_town_bellPranks])), (q_town_blocks, .inl (g 0, 64, .inl a_town_blocks)), (q_ways, .inr (10, [.ref q_ways_steps, .ref q_ways_queue, .ref q_ways_lows, .ref q_ways_stops, .int f_ways_stopCount, .int f_ways_stepSum])), (q_ways_steps, .inl (g 0, 64, .inl a_ways_steps)), (q_ways_queue, .inl (g 0, 64, .inl a_ways_queue)), (q_ways_lows, .inl (g 0, 64, .inl a_ways_lows))]) X hE hA k_X11_demandFound (c_X11_demandFound l hfl ak av aS D g t0 o8 e9) ql_X11_X11_demandFound dX11_way_68 bkc_nil bk_nil rfl rfl ⟨Nat.le_of_ble_eq_true rfl, Nat.le_of_ble_eq_true rfl, rfl, rfl, Nat.le_of_ble_eq_true rfl, Nat.le_of_ble_eq_true rfl⟩ (Nat.le_of_ble_eq_true rfl) (fun x10 => ?_) (fun x10 => ?_)
    · have h := brn_t h x10
      refine z_iload X 0 dX11_way_71 rfl ?_
      cases h
      exact z_iretX X hQ (Nat.le_of_ble_eq_true rfl) (Nat.le_of_ble_eq_true rfl) hr dX11_way_73
    · have h := brn_f h x10
      cases h
      exact zt_out (lv := [(4, .int x4)]) X hno hQ x10 (Nat.le_of_ble_eq_true rfl) (Nat.le_of_ble_eq_true rfl)
  have H55 : ∀ (t0 : Int32) (a_ways_steps : Nat → Int32) (a_ways_queue : Nat → Int32) (a_ways_lows : Nat → Int32), J_X11_way_55 p1 p2 p3 a_town_blocks t0 a_ways_steps a_ways_queue a_ways_lows = some o → Z p l e { frames := 8, cells := 2, slots := 12, locals := 140 } s m args below meth c Q 5 1 6 (IW D A s [(q_this, .inr (11, [.ref q_town, .ref q_ahead, .ref q_kept, .int f_isKept, .ref q_past, .ref q_reason, .ref q_orders, .ref q_ways, .ref q_sheet])), (q_town, .inr (9, [.ref q_town_houses, .ref q_town_halls, .ref q_town_posts, .ref q_town_blocks, .ref q_town_kinds, .int f_town_hour, .int f_town_day, .int f_town_prankHouse, .int f_town_bells, .int f_town_echoes, .int f_town_bellPranks])), (q_town_blocks, .inl (g 0, 64, .inl a_town_blocks)), (q_ways, .inr (10, [.ref q_ways_steps, .ref q_ways_queue, .ref q_ways_lows, .ref q_ways_stops, .int f_ways_stopCount, .int f_ways_stepSum])), (q_ways_steps, .inl (g 0, 64, .inl a_ways_steps)), (q_ways_queue, .inl (g 0, 64, .inl a_ways_queue)), (q_ways_lows, .inl (g 0, 64, .inl a_ways_lows))]) 55 [] [.int t0] := by
    intro t0 a_ways_steps a_ways_queue a_ways_lows h
    refine z_istore X [(4, .int t0)] dX11_way_55 (by decide) rfl ?_
    refine z_iload X 0 dX11_way_57 rfl ?_
    refine z_iconst X ((-1) : Int32) dX11_way_59 (by decide) ?_
    refine z_icmp_eq X 67 dX11_way_60 (by decide) h (fun _ h => ?_) (fun _ h => ?_)
    · refine z_iconst X (0 : Int32) dX11_way_67 (by decide) ?_
      refine z_widen (k := 1) (n := 6) (Nat.le_of_ble_eq_true rfl) (Nat.le_of_ble_eq_true rfl) ?_
      exact H68 (0 : Int32) t0 a_ways_steps a_ways_queue a_ways_lows h
    · refine z_iconst X (1 : Int32) dX11_way_63 (by decide) ?_
      refine z_goto X 68 dX11_way_64 (by decide) ?_
      refine z_widen (k := 1) (n := 6) (Nat.le_of_ble_eq_true rfl) (Nat.le_of_ble_eq_true rfl) ?_
      exact H68 (1 : Int32) t0 a_ways_steps a_ways_queue a_ways_lows h
  have H19 : ∀ (t0 : Int32) (a_ways_steps : Nat → Int32) (a_ways_queue : Nat → Int32) (a_ways_lows : Nat → Int32), J_X11_way_19 p1 p2 p3 a_town_blocks t0 a_ways_steps a_ways_queue a_ways_lows = some o → Z p l e { frames := 8, cells := 2, slots := 12, locals := 140 } s m args below meth c Q 5 0 0 (IW D A s [(q_this, .inr (11, [.ref q_town, .ref q_ahead, .ref q_kept, .int f_isKept, .ref q_past, .ref q_reason, .ref q_orders, .ref q_ways, .ref q_sheet])), (q_town, .inr (9, [.ref q_town_houses, .ref q_town_halls, .ref q_town_posts, .ref q_town_blocks, .ref q_town_kinds, .int f_town_hour, .int f_town_day, .int f_town_prankHouse, .int f_town_bells, .int f_town_echoes, .int f_town_bellPranks])), (q_town_blocks, .inl (g 0, 64, .inl a_town_blocks)), (q_ways, .inr (10, [.ref q_ways_steps, .ref q_ways_queue, .ref q_ways_lows, .ref q_ways_stops, .int f_ways_stopCount, .int f_ways_stepSum])), (q_ways_steps, .inl (g 0, 64, .inl a_ways_steps)), (q_ways_queue, .inl (g 0, 64, .inl a_ways_queue)), (q_ways_lows, .inl (g 0, 64, .inl a_ways_lows))]) 19 [(0, .ref q_this), (1, .int p1), (2, .int p2), (3, .int p3)] [.int t0] := by
    intro t0 a_ways_steps a_ways_queue a_ways_lows h
    obtain ⟨o3, e4, h⟩ := bnd_p h
    refine z_exS (rest := []) (ws' := [(q_this, .inr (11, [.ref q_town, .ref q_ahead, .ref q_kept, .int f_isKept, .ref q_past, .ref q_reason, .ref q_orders, .ref q_ways, .ref q_sheet])), (q_town, .inr (9, [.ref q_town_houses, .ref q_town_halls, .ref q_town_posts, .ref q_town_blocks, .ref q_town_kinds, .int f_town_hour, .int f_town_day, .int f_town_prankHouse, .int f_town_bells, .int f_town_echoes, .int f_town_bellPranks])), (q_town_blocks, .inl (g 0, 64, .inl a_town_blocks)), (q_ways, .inr (10, [.ref q_ways_steps, .ref q_ways_queue, .ref q_ways_lows, .ref q_ways_stops, .int f_ways_stopCount, .int f_ways_stepSum])), (q_ways_steps, .inl (g 0, 64, .inl a_ways_steps)), (q_ways_queue, .inl (g 0, 64, .inl a_ways_queue)), (q_ways_lows, .inl (g 0, 64, .inl a_ways_lows))]) X hE hA k_X11_demandProper (c_X11_demandProper l hfl ak av aS D g t0 o3 e4) ql_X11_X11_demandProper dX11_way_19 bkc_nil bk_nil rfl rfl ⟨Nat.le_of_ble_eq_true rfl, Nat.le_of_ble_eq_true rfl, rfl, rfl, Nat.le_of_ble_eq_true rfl, Nat.le_of_ble_eq_true rfl⟩ (Nat.le_of_ble_eq_true rfl) (fun x5 => ?_) (fun x5 => ?_)
    · have h := brn_t h x5
      refine z_iload_n X 3 dX11_way_22 rfl rfl ?_
      refine z_if_eq X 42 dX11_way_23 (by decide) h (fun _ h => ?_) (fun _ h => ?_)
      · refine z_aload_n X 0 dX11_way_42 rfl rfl ?_
        refine z_get (q0 := 0) (k := 7) (ci := 11) X IW_P iw_X11 rfl qf_X11_X11_ways (by decide) dX11_way_43 rfl rfl ?_
        refine z_aload_n X 0 dX11_way_46 rfl rfl ?_
        refine z_get (q0 := 0) (k := 0) (ci := 11) X IW_P iw_X11 rfl qf_X11_X11_town (by decide) dX11_way_47 rfl rfl ?_
        refine z_iload_n X 1 dX11_way_50 rfl rfl ?_
        refine z_iload_n X 2 dX11_way_51 rfl rfl ?_
        obtain ⟨o6, e7, h⟩ := bnd_p h
        refine z_wrV (rest := []) (q0 := 3) (ci := 10) (ws' := [(q_this, .inr (11, [.ref q_town, .ref q_ahead, .ref q_kept, .int f_isKept, .ref q_past, .ref q_reason, .ref q_orders, .ref q_ways, .ref q_sheet])), (q_town, .inr (9, [.ref q_town_houses, .ref q_town_halls, .ref q_town_posts, .ref q_town_blocks, .ref q_town_kinds, .int f_town_hour, .int f_town_day, .int f_town_prankHouse, .int f_town_bells, .int f_town_echoes, .int f_town_bellPranks])), (q_town_blocks, .inl (g 0, 64, .inl a_town_blocks)), (q_ways, .inr (10, [.ref q_ways_steps, .ref q_ways_queue, .ref q_ways_lows, .ref q_ways_stops, .int f_ways_stopCount, .int f_ways_stepSum])), (q_ways_steps, .inl (g 0, 64, .inl o6.2.1)), (q_ways_queue, .inl (g 0, 64, .inl o6.2.2)), (q_ways_lows, .inl (g 0, 64, .inl a_ways_lows))]) (wr := [(q_this, .inr (11, [.ref q_town, .ref q_ahead, .ref q_kept, .int f_isKept, .ref q_past, .ref q_reason, .ref q_orders, .ref q_ways, .ref q_sheet])), (q_ways_lows, .inl (g 0, 64, .inl a_ways_lows))]) (as := [q_this, q_town, q_town_blocks, q_ways, q_ways_steps, q_ways_queue, q_ways_lows]) X k_X10_stepsTo (c_X10_stepsTo l D g q_ways q_ways_steps q_ways_queue q_ways_lows q_ways_stops q_town q_town_houses q_town_halls q_town_posts q_town_blocks q_town_kinds p1 p2 f_ways_stopCount f_ways_stepSum a_ways_steps a_ways_queue f_town_hour f_town_day f_town_prankHouse f_town_bells f_town_echoes f_town_bellPranks a_town_blocks o6 e7) ql_X11_X10_stepsTo dX11_way_52 [3, 4, 5, 1, 2] [0, 6] ⟨rfl, rfl, rfl, rfl, rfl, rfl, rfl, rfl⟩ rfl rfl rfl rfl rfl ⟨Nat.le_of_ble_eq_true rfl, Nat.le_of_ble_eq_true rfl, rfl, rfl, Nat.le_of_ble_eq_true rfl, Nat.le_of_ble_eq_true rfl⟩ (Nat.le_of_ble_eq_true rfl) ?_
        refine z_widen (k := 1) (n := 6) (Nat.le_of_ble_eq_true rfl) (Nat.le_of_ble_eq_true rfl) ?_
        refine z_sub (lv' := []) [] rfl ?_
        exact H55 o6.1 o6.2.1 o6.2.2 a_ways_lows h
      · refine z_aload_n X 0 dX11_way_26 rfl rfl ?_
        refine z_get (q0 := 0) (k := 7) (ci := 11) X IW_P iw_X11 rfl qf_X11_X11_ways (by decide) dX11_way_27 rfl rfl ?_
        refine z_aload_n X 0 dX11_way_30 rfl rfl ?_
        refine z_get (q0 := 0) (k := 0) (ci := 11) X IW_P iw_X11 rfl qf_X11_X11_town (by decide) dX11_way_31 rfl rfl ?_
        refine z_iload_n X 1 dX11_way_34 rfl rfl ?_
        refine z_iload_n X 2 dX11_way_35 rfl rfl ?_
        obtain ⟨o11, e12, h⟩ := bnd_p h
        refine z_wrV (rest := []) (q0 := 3) (ci := 10) (ws' := [(q_this, .inr (11, [.ref q_town, .ref q_ahead, .ref q_kept, .int f_isKept, .ref q_past, .ref q_reason, .ref q_orders, .ref q_ways, .ref q_sheet])), (q_town, .inr (9, [.ref q_town_houses, .ref q_town_halls, .ref q_town_posts, .ref q_town_blocks, .ref q_town_kinds, .int f_town_hour, .int f_town_day, .int f_town_prankHouse, .int f_town_bells, .int f_town_echoes, .int f_town_bellPranks])), (q_town_blocks, .inl (g 0, 64, .inl a_town_blocks)), (q_ways, .inr (10, [.ref q_ways_steps, .ref q_ways_queue, .ref q_ways_lows, .ref q_ways_stops, .int f_ways_stopCount, .int f_ways_stepSum])), (q_ways_steps, .inl (g 0, 64, .inl a_ways_steps)), (q_ways_queue, .inl (g 0, 64, .inl a_ways_queue)), (q_ways_lows, .inl (g 0, 64, .inl o11.2))]) (wr := [(q_this, .inr (11, [.ref q_town, .ref q_ahead, .ref q_kept, .int f_isKept, .ref q_past, .ref q_reason, .ref q_orders, .ref q_ways, .ref q_sheet])), (q_ways_steps, .inl (g 0, 64, .inl a_ways_steps)), (q_ways_queue, .inl (g 0, 64, .inl a_ways_queue))]) (as := [q_this, q_town, q_town_blocks, q_ways, q_ways_steps, q_ways_queue, q_ways_lows]) X k_X10_lowestTo (c_X10_lowestTo l D g q_ways q_ways_steps q_ways_queue q_ways_lows q_ways_stops q_town q_town_houses q_town_halls q_town_posts q_town_blocks q_town_kinds p1 p2 f_ways_stopCount f_ways_stepSum a_ways_lows f_town_hour f_town_day f_town_prankHouse f_town_bells f_town_echoes f_town_bellPranks a_town_blocks o11 e12) ql_X11_X10_lowestTo dX11_way_36 [3, 6, 1, 2] [0, 4, 5] ⟨rfl, rfl, rfl, rfl, rfl, rfl, rfl, rfl⟩ rfl rfl rfl rfl rfl ⟨Nat.le_of_ble_eq_true rfl, Nat.le_of_ble_eq_true rfl, rfl, rfl, Nat.le_of_ble_eq_true rfl, Nat.le_of_ble_eq_true rfl⟩ (Nat.le_of_ble_eq_true rfl) ?_
        refine z_goto X 55 dX11_way_39 (by decide) ?_
        refine z_widen (k := 1) (n := 6) (Nat.le_of_ble_eq_true rfl) (Nat.le_of_ble_eq_true rfl) ?_
        refine z_sub (lv' := []) [] rfl ?_
        exact H55 o11.1 a_ways_steps a_ways_queue o11.2 h
    · have h := brn_f h x5
      cases h
      exact zt_out (lv := [(0, .ref q_this), (1, .int p1), (2, .int p2), (3, .int p3)]) X hno hQ x5 (Nat.le_of_ble_eq_true rfl) (Nat.le_of_ble_eq_true rfl)
  have H18 : ∀ (a_ways_steps : Nat → Int32) (a_ways_queue : Nat → Int32) (a_ways_lows : Nat → Int32), J_X11_way_18 p1 p2 p3 a_town_blocks a_ways_steps a_ways_queue a_ways_lows = some o → Z p l e { frames := 8, cells := 2, slots := 12, locals := 140 } s m args below meth c Q 5 0 0 (IW D A s [(q_this, .inr (11, [.ref q_town, .ref q_ahead, .ref q_kept, .int f_isKept, .ref q_past, .ref q_reason, .ref q_orders, .ref q_ways, .ref q_sheet])), (q_town, .inr (9, [.ref q_town_houses, .ref q_town_halls, .ref q_town_posts, .ref q_town_blocks, .ref q_town_kinds, .int f_town_hour, .int f_town_day, .int f_town_prankHouse, .int f_town_bells, .int f_town_echoes, .int f_town_bellPranks])), (q_town_blocks, .inl (g 0, 64, .inl a_town_blocks)), (q_ways, .inr (10, [.ref q_ways_steps, .ref q_ways_queue, .ref q_ways_lows, .ref q_ways_stops, .int f_ways_stopCount, .int f_ways_stepSum])), (q_ways_steps, .inl (g 0, 64, .inl a_ways_steps)), (q_ways_queue, .inl (g 0, 64, .inl a_ways_queue)), (q_ways_lows, .inl (g 0, 64, .inl a_ways_lows))]) 18 [(0, .ref q_this), (1, .int p1), (2, .int p2), (3, .int p3)] [] := by
    intro a_ways_steps a_ways_queue a_ways_lows h
    refine z_iconst X (0 : Int32) dX11_way_18 (by decide) ?_
    refine z_widen (k := 0) (n := 0) (Nat.le_of_ble_eq_true rfl) (Nat.le_of_ble_eq_true rfl) ?_
    exact H19 (0 : Int32) a_ways_steps a_ways_queue a_ways_lows h
  refine z_iload_n X 1 dX11_way_0 rfl rfl ?_
  obtain ⟨o1, e2, h⟩ := bnd_p h
  refine z_rdS (rest := []) X IW_P k_X0_isCell (c_X0_isCell l D g p1 o1 e2) ql_X11_X0_isCell dX11_way_1 [] rfl rfl rfl ⟨Nat.le_of_ble_eq_true rfl, Nat.le_of_ble_eq_true rfl, rfl, rfl, Nat.le_of_ble_eq_true rfl, Nat.le_of_ble_eq_true rfl⟩ (Nat.le_of_ble_eq_true rfl) ?_
  refine z_if_eq X 18 dX11_way_4 (by decide) h (fun _ h => ?_) (fun _ h => ?_)
  · refine z_widen (k := 0) (n := 0) (Nat.le_of_ble_eq_true rfl) (Nat.le_of_ble_eq_true rfl) ?_
    exact H18 a_ways_steps a_ways_queue a_ways_lows h
  · refine z_iload_n X 2 dX11_way_7 rfl rfl ?_
    obtain ⟨o13, e14, h⟩ := bnd_p h
    refine z_rdS (rest := []) X IW_P k_X0_isCell (c_X0_isCell l D g p2 o13 e14) ql_X11_X0_isCell dX11_way_8 [] rfl rfl rfl ⟨Nat.le_of_ble_eq_true rfl, Nat.le_of_ble_eq_true rfl, rfl, rfl, Nat.le_of_ble_eq_true rfl, Nat.le_of_ble_eq_true rfl⟩ (Nat.le_of_ble_eq_true rfl) ?_
    refine z_if_eq X 18 dX11_way_11 (by decide) h (fun _ h => ?_) (fun _ h => ?_)
    · refine z_widen (k := 0) (n := 0) (Nat.le_of_ble_eq_true rfl) (Nat.le_of_ble_eq_true rfl) ?_
      exact H18 a_ways_steps a_ways_queue a_ways_lows h
    · refine z_iconst X (1 : Int32) dX11_way_14 (by decide) ?_
      refine z_goto X 19 dX11_way_15 (by decide) ?_
      refine z_widen (k := 0) (n := 0) (Nat.le_of_ble_eq_true rfl) (Nat.le_of_ble_eq_true rfl) ?_
      exact H19 (1 : Int32) a_ways_steps a_ways_queue a_ways_lows h

def J_X11_round_30 (p1 : Int32) (f_town_houses_size : Int32) (a_town_houses_cells : Nat → Int32) (a_town_blocks : Nat → Int32) (t0 : Int32) (x2 : Int32) (f_ways_stopCount : Int32) (f_ways_stepSum : Int32) (a_ways_steps : Nat → Int32) (a_ways_queue : Nat → Int32) (a_ways_stops : Nat → Int32) : Option (Nat × Int32 × Int32 × Int32 × (Nat → Int32) × (Nat → Int32) × (Nat → Int32)) :=
  bnd (F_X11_demandFound t0) (fun o5 => brn (o5 = 0) (some (0, x2, f_ways_stopCount, f_ways_stepSum, a_ways_steps, a_ways_queue, a_ways_stops)) (some (o5, (0 : Int32), f_ways_stopCount, f_ways_stepSum, a_ways_steps, a_ways_queue, a_ways_stops)))

def F_X11_round (p1 : Int32) (f_town_houses_size : Int32) (a_town_houses_cells : Nat → Int32) (a_town_blocks : Nat → Int32) (f_ways_stopCount : Int32) (f_ways_stepSum : Int32) (a_ways_steps : Nat → Int32) (a_ways_queue : Nat → Int32) (a_ways_stops : Nat → Int32) : Option (Nat × Int32 × Int32 × Int32 × (Nat → Int32) × (Nat → Int32) × (Nat → Int32)) :=
  bnd (F_X10_goRound f_town_houses_size a_town_houses_cells a_town_blocks f_ways_stopCount f_ways_stepSum a_ways_steps a_ways_queue a_ways_stops) (fun o1 => bnd (F_X10_stopAt p1 o1.1 o1.2.2.2.2) (fun o3 => brn (o3 = ((-1) : Int32)) (J_X11_round_30 p1 f_town_houses_size a_town_houses_cells a_town_blocks (0 : Int32) o3 o1.1 o1.2.1 o1.2.2.1 o1.2.2.2.1 o1.2.2.2.2) (J_X11_round_30 p1 f_town_houses_size a_town_houses_cells a_town_blocks (1 : Int32) o3 o1.1 o1.2.1 o1.2.2.1 o1.2.2.2.1 o1.2.2.2.2)))
theorem dX11_round_0 : decode cX11_round 0 = .ok (.aload_n 0, 1) := by decide +kernel
theorem dX11_round_1 : decode cX11_round 1 = .ok (.getfield 50, 3) := by decide +kernel
theorem dX11_round_4 : decode cX11_round 4 = .ok (.aload_n 0, 1) := by decide +kernel
theorem dX11_round_5 : decode cX11_round 5 = .ok (.getfield 10, 3) := by decide +kernel
theorem dX11_round_8 : decode cX11_round 8 = .ok (.invokevirtual 254, 3) := by decide +kernel
theorem dX11_round_11 : decode cX11_round 11 = .ok (.aload_n 0, 1) := by decide +kernel
theorem dX11_round_12 : decode cX11_round 12 = .ok (.getfield 50, 3) := by decide +kernel
theorem dX11_round_15 : decode cX11_round 15 = .ok (.iload_n 1, 1) := by decide +kernel
theorem dX11_round_16 : decode cX11_round 16 = .ok (.invokevirtual 257, 3) := by decide +kernel
theorem dX11_round_19 : decode cX11_round 19 = .ok (.istore_n 2, 1) := by decide +kernel
theorem dX11_round_20 : decode cX11_round 20 = .ok (.iload_n 2, 1) := by decide +kernel
theorem dX11_round_21 : decode cX11_round 21 = .ok (.iconst (-1), 1) := by decide +kernel
theorem dX11_round_22 : decode cX11_round 22 = .ok (.if_icmp .eq 7, 3) := by decide +kernel
theorem dX11_round_25 : decode cX11_round 25 = .ok (.iconst 1, 1) := by decide +kernel
theorem dX11_round_26 : decode cX11_round 26 = .ok (.goto 4, 3) := by decide +kernel
theorem dX11_round_29 : decode cX11_round 29 = .ok (.iconst 0, 1) := by decide +kernel
theorem dX11_round_30 : decode cX11_round 30 = .ok (.invokestatic 169, 3) := by decide +kernel
theorem dX11_round_33 : decode cX11_round 33 = .ok (.iload_n 2, 1) := by decide +kernel
theorem dX11_round_34 : decode cX11_round 34 = .ok (.ireturn, 1) := by decide +kernel
theorem k_X11_round : cardV yX11_round (Cond.code yX11_round cX11_round 3 (some .int)) 1 := ⟨⟨qi_X11_round, qv_X11_round⟩, qc_X11_round, qn_X11, by decide +kernel, by decide +kernel, by decide +kernel⟩
set_option maxHeartbeats 4000000 in
set_option maxRecDepth 100000 in
theorem c_X11_round (l : Launch) (hfl : l.stackTraces = false) (ak av : Nat → Nat) (aS : Nat) (D : va_G) (g : Nat → ClassId) (q_this q_town q_ahead q_kept q_past q_reason q_orders q_ways q_sheet q_town_houses q_town_halls q_town_posts q_town_blocks q_town_kinds q_town_houses_cells q_town_houses_froms q_town_houses_tos q_town_houses_rings q_town_houses_pranks q_ways_steps q_ways_queue q_ways_lows q_ways_stops : Nat) (p1 : Int32) (f_isKept : Int32) (f_town_hour : Int32) (f_town_day : Int32) (f_town_prankHouse : Int32) (f_town_bells : Int32) (f_town_echoes : Int32) (f_town_bellPranks : Int32) (f_town_houses_size : Int32) (a_town_houses_cells : Nat → Int32) (a_town_blocks : Nat → Int32) (f_ways_stopCount : Int32) (f_ways_stepSum : Int32) (a_ways_steps : Nat → Int32) (a_ways_queue : Nat → Int32) (a_ways_stops : Nat → Int32) (o : Nat × Int32 × Int32 × Int32 × (Nat → Int32) × (Nat → Int32) × (Nat → Int32)) (h : F_X11_round p1 f_town_houses_size a_town_houses_cells a_town_blocks f_ways_stopCount f_ways_stepSum a_ways_steps a_ways_queue a_ways_stops = some o) : MX l yX11_round (Cond.code yX11_round cX11_round 3 (some .int)) { frames := 8, cells := 1, slots := 6, locals := 136 } ak av aS D g [.ref q_this, .int p1] [(q_this, .inr (11, [.ref q_town, .ref q_ahead, .ref q_kept, .int f_isKept, .ref q_past, .ref q_reason, .ref q_orders, .ref q_ways, .ref q_sheet])), (q_town, .inr (9, [.ref q_town_houses, .ref q_town_halls, .ref q_town_posts, .ref q_town_blocks, .ref q_town_kinds, .int f_town_hour, .int f_town_day, .int f_town_prankHouse, .int f_town_bells, .int f_town_echoes, .int f_town_bellPranks])), (q_town_houses, .inr (3, [.int f_town_houses_size, .ref q_town_houses_cells, .ref q_town_houses_froms, .ref q_town_houses_tos, .ref q_town_houses_rings, .ref q_town_houses_pranks])), (q_town_houses_cells, .inl (g 0, 10, .inl a_town_houses_cells)), (q_town_blocks, .inl (g 0, 64, .inl a_town_blocks)), (q_ways, .inr (10, [.ref q_ways_steps, .ref q_ways_queue, .ref q_ways_lows, .ref q_ways_stops, .int f_ways_stopCount, .int f_ways_stepSum])), (q_ways_steps, .inl (g 0, 64, .inl a_ways_steps)), (q_ways_queue, .inl (g 0, 64, .inl a_ways_queue)), (q_ways_stops, .inl (g 0, 10, .inl a_ways_stops))] o.1 (some (.int o.2.1)) [(q_this, .inr (11, [.ref q_town, .ref q_ahead, .ref q_kept, .int f_isKept, .ref q_past, .ref q_reason, .ref q_orders, .ref q_ways, .ref q_sheet])), (q_town, .inr (9, [.ref q_town_houses, .ref q_town_halls, .ref q_town_posts, .ref q_town_blocks, .ref q_town_kinds, .int f_town_hour, .int f_town_day, .int f_town_prankHouse, .int f_town_bells, .int f_town_echoes, .int f_town_bellPranks])), (q_town_houses, .inr (3, [.int f_town_houses_size, .ref q_town_houses_cells, .ref q_town_houses_froms, .ref q_town_houses_tos, .ref q_town_houses_rings, .ref q_town_houses_pranks])), (q_town_houses_cells, .inl (g 0, 10, .inl a_town_houses_cells)), (q_town_blocks, .inl (g 0, 64, .inl a_town_blocks)), (q_ways, .inr (10, [.ref q_ways_steps, .ref q_ways_queue, .ref q_ways_lows, .ref q_ways_stops, .int o.2.2.1, .int o.2.2.2.1])), (q_ways_steps, .inl (g 0, 64, .inl o.2.2.2.2.1)), (q_ways_queue, .inl (g 0, 64, .inl o.2.2.2.2.2.1)), (q_ways_stops, .inl (g 0, 10, .inl o.2.2.2.2.2.2))] 1 6 := by
  refine z_ex_start (by decide) (Nat.le_of_ble_eq_true rfl) ?_
  intro p e s m args below meth c Q A X hr hE hA hno hQ
  refine z_lv (lv' := [(0, .ref q_this), (1, .int p1)]) rfl ?_
  have H30 : ∀ (t0 : Int32) (x2 : Int32) (f_ways_stopCount : Int32) (f_ways_stepSum : Int32) (a_ways_steps : Nat → Int32) (a_ways_queue : Nat → Int32) (a_ways_stops : Nat → Int32), J_X11_round_30 p1 f_town_houses_size a_town_houses_cells a_town_blocks t0 x2 f_ways_stopCount f_ways_stepSum a_ways_steps a_ways_queue a_ways_stops = some o → Z p l e { frames := 8, cells := 1, slots := 6, locals := 136 } s m args below meth c Q 3 0 0 (IW D A s [(q_this, .inr (11, [.ref q_town, .ref q_ahead, .ref q_kept, .int f_isKept, .ref q_past, .ref q_reason, .ref q_orders, .ref q_ways, .ref q_sheet])), (q_town, .inr (9, [.ref q_town_houses, .ref q_town_halls, .ref q_town_posts, .ref q_town_blocks, .ref q_town_kinds, .int f_town_hour, .int f_town_day, .int f_town_prankHouse, .int f_town_bells, .int f_town_echoes, .int f_town_bellPranks])), (q_town_houses, .inr (3, [.int f_town_houses_size, .ref q_town_houses_cells, .ref q_town_houses_froms, .ref q_town_houses_tos, .ref q_town_houses_rings, .ref q_town_houses_pranks])), (q_town_houses_cells, .inl (g 0, 10, .inl a_town_houses_cells)), (q_town_blocks, .inl (g 0, 64, .inl a_town_blocks)), (q_ways, .inr (10, [.ref q_ways_steps, .ref q_ways_queue, .ref q_ways_lows, .ref q_ways_stops, .int f_ways_stopCount, .int f_ways_stepSum])), (q_ways_steps, .inl (g 0, 64, .inl a_ways_steps)), (q_ways_queue, .inl (g 0, 64, .inl a_ways_queue)), (q_ways_stops, .inl (g 0, 10, .inl a_ways_stops))]) 30 [(2, .int x2)] [.int t0] := by
    intro t0 x2 f_ways_stopCount f_ways_stepSum a_ways_steps a_ways_queue a_ways_stops h
    obtain ⟨o5, e6, h⟩ := bnd_p h
    refine z_exS (rest := []) (ws' := [(q_this, .inr (11, [.ref q_town, .ref q_ahead, .ref q_kept, .int f_isKept, .ref q_past, .ref q_reason, .ref q_orders, .ref q_ways, .ref q_sheet])), (q_town, .inr (9, [.ref q_town_houses, .ref q_town_halls, .ref q_town_posts, .ref q_town_blocks, .ref q_town_kinds, .int f_town_hour, .int f_town_day, .int f_town_prankHouse, .int f_town_bells, .int f_town_echoes, .int f_town_bellPranks])), (q_town_houses, .inr (3, [.int f_town_houses_size, .ref q_town_houses_cells, .ref q_town_houses_froms, .ref q_town_houses_tos, .ref q_town_houses_rings, .ref q_town_houses_pranks])), (q_town_houses_cells, .inl (g 0, 10, .inl a_town_houses_cells)), (q_town_blocks, .inl (g 0, 64, .inl a_town_blocks)), (q_ways, .inr (10, [.ref q_ways_steps, .ref q_ways_queue, .ref q_ways_lows, .ref q_ways_stops, .int f_ways_stopCount, .int f_ways_stepSum])), (q_ways_steps, .inl (g 0, 64, .inl a_ways_steps)), (q_ways_queue, .inl (g 0, 64, .inl a_ways_queue)), (q_ways_stops, .inl (g 0, 10, .inl a_ways_stops))]) X hE hA k_X11_demandFound (c_X11_demandFound l hfl ak av aS D g t0 o5 e6) ql_X11_X11_demandFound dX11_round_30 bkc_nil bk_nil rfl rfl ⟨Nat.le_of_ble_eq_true rfl, Nat.le_of_ble_eq_true rfl, rfl, rfl, Nat.le_of_ble_eq_true rfl, Nat.le_of_ble_eq_true rfl⟩ (Nat.le_of_ble_eq_true rfl) (fun x7 => ?_) (fun x7 => ?_)
    · have h := brn_t h x7
      refine z_iload_n X 0 dX11_round_33 rfl rfl ?_
      cases h
      exact z_iretX X hQ (Nat.le_of_ble_eq_true rfl) (Nat.le_of_ble_eq_true rfl) hr dX11_round_34
    · have h := brn_f h x7
      cases h
      exact zt_out (lv := [(2, .int x2)]) X hno hQ x7 (Nat.le_of_ble_eq_true rfl) (Nat.le_of_ble_eq_true rfl)
  refine z_aload_n X 0 dX11_round_0 rfl rfl ?_
  refine z_get (q0 := 0) (k := 7) (ci := 11) X IW_P iw_X11 rfl qf_X11_X11_ways (by decide) dX11_round_1 rfl rfl ?_
  refine z_aload_n X 0 dX11_round_4 rfl rfl ?_
  refine z_get (q0 := 0) (k := 0) (ci := 11) X IW_P iw_X11 rfl qf_X11_X11_town (by decide) dX11_round_5 rfl rfl ?_
  obtain ⟨o1, e2, h⟩ := bnd_p h
  refine z_wrV (rest := []) (q0 := 5) (ci := 10) (ws' := [(q_this, .inr (11, [.ref q_town, .ref q_ahead, .ref q_kept, .int f_isKept, .ref q_past, .ref q_reason, .ref q_orders, .ref q_ways, .ref q_sheet])), (q_town, .inr (9, [.ref q_town_houses, .ref q_town_halls, .ref q_town_posts, .ref q_town_blocks, .ref q_town_kinds, .int f_town_hour, .int f_town_day, .int f_town_prankHouse, .int f_town_bells, .int f_town_echoes, .int f_town_bellPranks])), (q_town_houses, .inr (3, [.int f_town_houses_size, .ref q_town_houses_cells, .ref q_town_houses_froms, .ref q_town_houses_tos, .ref q_town_houses_rings, .ref q_town_houses_pranks])), (q_town_houses_cells, .inl (g 0, 10, .inl a_town_houses_cells)), (q_town_blocks, .inl (g 0, 64, .inl a_town_blocks)), (q_ways, .inr (10, [.ref q_ways_steps, .ref q_ways_queue, .ref q_ways_lows, .ref q_ways_stops, .int o1.1, .int o1.2.1])), (q_ways_steps, .inl (g 0, 64, .inl o1.2.2.1)), (q_ways_queue, .inl (g 0, 64, .inl o1.2.2.2.1)), (q_ways_stops, .inl (g 0, 10, .inl o1.2.2.2.2))]) (wr := [(q_this, .inr (11, [.ref q_town, .ref q_ahead, .ref q_kept, .int f_isKept, .ref q_past, .ref q_reason, .ref q_orders, .ref q_ways, .ref q_sheet]))]) (as := [q_this, q_town, q_town_houses, q_town_houses_cells, q_town_blocks, q_ways, q_ways_steps, q_ways_queue, q_ways_stops]) X k_X10_goRound (c_X10_goRound l D g q_ways q_ways_steps q_ways_queue q_ways_lows q_ways_stops q_town q_town_houses q_town_halls q_town_posts q_town_blocks q_town_kinds q_town_houses_cells q_town_houses_froms q_town_houses_tos q_town_houses_rings q_town_houses_pranks f_ways_stopCount f_ways_stepSum a_ways_steps a_ways_queue a_ways_stops f_town_hour f_town_day f_town_prankHouse f_town_bells f_town_echoes f_town_bellPranks f_town_houses_size a_town_houses_cells a_town_blocks o1 e2) ql_X11_X10_goRound dX11_round_8 [5, 6, 7, 8, 1, 2, 3, 4] [0] ⟨rfl, rfl, rfl, rfl, rfl, rfl, rfl, rfl⟩ rfl rfl rfl rfl rfl ⟨Nat.le_of_ble_eq_true rfl, Nat.le_of_ble_eq_true rfl, rfl, rfl, Nat.le_of_ble_eq_true rfl, Nat.le_of_ble_eq_true rfl⟩ (Nat.le_of_ble_eq_true rfl) ?_
  refine z_aload_n X 0 dX11_round_11 rfl rfl ?_
  refine z_get (q0 := 0) (k := 7) (ci := 11) X IW_P iw_X11 rfl qf_X11_X11_ways (by decide) dX11_round_12 rfl rfl ?_
  refine z_iload_n X 1 dX11_round_15 rfl rfl ?_
  obtain ⟨o3, e4, h⟩ := bnd_p h
  refine z_rdV (rest := []) (q0 := 5) (ci := 10) X IW_P k_X10_stopAt (c_X10_stopAt l D g q_ways q_ways_steps q_ways_queue q_ways_lows q_ways_stops p1 o1.1 o1.2.1 o1.2.2.2.2 o3 e4) ql_X11_X10_stopAt dX11_round_16 [5, 8] rfl rfl rfl rfl rfl rfl ⟨Nat.le_of_ble_eq_true rfl, Nat.le_of_ble_eq_true rfl, rfl, rfl, Nat.le_of_ble_eq_true rfl, Nat.le_of_ble_eq_true rfl⟩ (Nat.le_of_ble_eq_true rfl) ?_
  refine z_istore_n X [(2, .int o3), (0, .ref q_this), (1, .int p1)] dX11_round_19 rfl (by decide) rfl ?_
  refine z_iload_n X 0 dX11_round_20 rfl rfl ?_
  refine z_iconst X ((-1) : Int32) dX11_round_21 (by decide) ?_
  refine z_icmp_eq X 29 dX11_round_22 (by decide) h (fun _ h => ?_) (fun _ h => ?_)
  · refine z_iconst X (0 : Int32) dX11_round_29 (by decide) ?_
    refine z_widen (k := 0) (n := 0) (Nat.le_of_ble_eq_true rfl) (Nat.le_of_ble_eq_true rfl) ?_
    refine z_sub (lv' := [(2, .int o3)]) [0] rfl ?_
    exact H30 (0 : Int32) o3 o1.1 o1.2.1 o1.2.2.1 o1.2.2.2.1 o1.2.2.2.2 h
  · refine z_iconst X (1 : Int32) dX11_round_25 (by decide) ?_
    refine z_goto X 30 dX11_round_26 (by decide) ?_
    refine z_widen (k := 0) (n := 0) (Nat.le_of_ble_eq_true rfl) (Nat.le_of_ble_eq_true rfl) ?_
    refine z_sub (lv' := [(2, .int o3)]) [0] rfl ?_
    exact H30 (1 : Int32) o3 o1.1 o1.2.1 o1.2.2.1 o1.2.2.2.1 o1.2.2.2.2 h

def J_X11_ranked_22 (p1 : Int32) (f_town_houses_size : Int32) (a_town_houses_rings : Nat → Int32) (a_town_houses_pranks : Nat → Int32) (t0 : Int32) (x2 : Int32) : Option (Nat × Int32) :=
  bnd (F_X11_demandFound t0) (fun o3 => brn (o3 = 0) (some (0, x2)) (some (o3, (0 : Int32))))

def F_X11_ranked (p1 : Int32) (f_town_houses_size : Int32) (a_town_houses_rings : Nat → Int32) (a_town_houses_pranks : Nat → Int32) : Option (Nat × Int32) :=
  bnd (F_X2_atRank p1 f_town_houses_size a_town_houses_rings a_town_houses_pranks) (fun o1 => brn (o1 = ((-1) : Int32)) (J_X11_ranked_22 p1 f_town_houses_size a_town_houses_rings a_town_houses_pranks (0 : Int32) o1) (J_X11_ranked_22 p1 f_town_houses_size a_town_houses_rings a_town_houses_pranks (1 : Int32) o1))
theorem dX11_ranked_0 : decode cX11_ranked 0 = .ok (.aload_n 0, 1) := by decide +kernel
theorem dX11_ranked_1 : decode cX11_ranked 1 = .ok (.getfield 10, 3) := by decide +kernel
theorem dX11_ranked_4 : decode cX11_ranked 4 = .ok (.getfield 73, 3) := by decide +kernel
theorem dX11_ranked_7 : decode cX11_ranked 7 = .ok (.iload_n 1, 1) := by decide +kernel
theorem dX11_ranked_8 : decode cX11_ranked 8 = .ok (.invokevirtual 263, 3) := by decide +kernel
theorem dX11_ranked_11 : decode cX11_ranked 11 = .ok (.istore_n 2, 1) := by decide +kernel
theorem dX11_ranked_12 : decode cX11_ranked 12 = .ok (.iload_n 2, 1) := by decide +kernel
theorem dX11_ranked_13 : decode cX11_ranked 13 = .ok (.iconst (-1), 1) := by decide +kernel
theorem dX11_ranked_14 : decode cX11_ranked 14 = .ok (.if_icmp .eq 7, 3) := by decide +kernel
theorem dX11_ranked_17 : decode cX11_ranked 17 = .ok (.iconst 1, 1) := by decide +kernel
theorem dX11_ranked_18 : decode cX11_ranked 18 = .ok (.goto 4, 3) := by decide +kernel
theorem dX11_ranked_21 : decode cX11_ranked 21 = .ok (.iconst 0, 1) := by decide +kernel
theorem dX11_ranked_22 : decode cX11_ranked 22 = .ok (.invokestatic 169, 3) := by decide +kernel
theorem dX11_ranked_25 : decode cX11_ranked 25 = .ok (.iload_n 2, 1) := by decide +kernel
theorem dX11_ranked_26 : decode cX11_ranked 26 = .ok (.ireturn, 1) := by decide +kernel
theorem k_X11_ranked : cardV yX11_ranked (Cond.code yX11_ranked cX11_ranked 3 (some .int)) 1 := ⟨⟨qi_X11_ranked, qv_X11_ranked⟩, qc_X11_ranked, qn_X11, by decide +kernel, by decide +kernel, by decide +kernel⟩
set_option maxHeartbeats 4000000 in
set_option maxRecDepth 100000 in
theorem c_X11_ranked (l : Launch) (hfl : l.stackTraces = false) (ak av : Nat → Nat) (aS : Nat) (D : va_G) (g : Nat → ClassId) (q_this q_town q_ahead q_kept q_past q_reason q_orders q_ways q_sheet q_town_houses q_town_halls q_town_posts q_town_blocks q_town_kinds q_town_houses_cells q_town_houses_froms q_town_houses_tos q_town_houses_rings q_town_houses_pranks : Nat) (p1 : Int32) (f_isKept : Int32) (f_town_hour : Int32) (f_town_day : Int32) (f_town_prankHouse : Int32) (f_town_bells : Int32) (f_town_echoes : Int32) (f_town_bellPranks : Int32) (f_town_houses_size : Int32) (a_town_houses_rings : Nat → Int32) (a_town_houses_pranks : Nat → Int32) (o : Nat × Int32) (h : F_X11_ranked p1 f_town_houses_size a_town_houses_rings a_town_houses_pranks = some o) : MX l yX11_ranked (Cond.code yX11_ranked cX11_ranked 3 (some .int)) { frames := 8, cells := 1, slots := 6, locals := 130 } ak av aS D g [.ref q_this, .int p1] [(q_this, .inr (11, [.ref q_town, .ref q_ahead, .ref q_kept, .int f_isKept, .ref q_past, .ref q_reason, .ref q_orders, .ref q_ways, .ref q_sheet])), (q_town, .inr (9, [.ref q_town_houses, .ref q_town_halls, .ref q_town_posts, .ref q_town_blocks, .ref q_town_kinds, .int f_town_hour, .int f_town_day, .int f_town_prankHouse, .int f_town_bells, .int f_town_echoes, .int f_town_bellPranks])), (q_town_houses, .inr (3, [.int f_town_houses_size, .ref q_town_houses_cells, .ref q_town_houses_froms, .ref q_town_houses_tos, .ref q_town_houses_rings, .ref q_town_houses_pranks])), (q_town_houses_rings, .inl (g 0, 10, .inl a_town_houses_rings)), (q_town_houses_pranks, .inl (g 0, 10, .inl a_town_houses_pranks))] o.1 (some (.int o.2)) [(q_this, .inr (11, [.ref q_town, .ref q_ahead, .ref q_kept, .int f_isKept, .ref q_past, .ref q_reason, .ref q_orders, .ref q_ways, .ref q_sheet])), (q_town, .inr (9, [.ref q_town_houses, .ref q_town_halls, .ref q_town_posts, .ref q_town_blocks, .ref q_town_kinds, .int f_town_hour, .int f_town_day, .int f_town_prankHouse, .int f_town_bells, .int f_town_echoes, .int f_town_bellPranks])), (q_town_houses, .inr (3, [.int f_town_houses_size, .ref q_town_houses_cells, .ref q_town_houses_froms, .ref q_town_houses_tos, .ref q_town_houses_rings, .ref q_town_houses_pranks])), (q_town_houses_rings, .inl (g 0, 10, .inl a_town_houses_rings)), (q_town_houses_pranks, .inl (g 0, 10, .inl a_town_houses_pranks))] 1 6 := by
  refine z_ex_start (by decide) (Nat.le_of_ble_eq_true rfl) ?_
  intro p e s m args below meth c Q A X hr hE hA hno hQ
  refine z_lv (lv' := [(0, .ref q_this), (1, .int p1)]) rfl ?_
  have H22 : ∀ (t0 : Int32) (x2 : Int32), J_X11_ranked_22 p1 f_town_houses_size a_town_houses_rings a_town_houses_pranks t0 x2 = some o → Z p l e { frames := 8, cells := 1, slots := 6, locals := 130 } s m args below meth c Q 3 0 0 (IW D A s [(q_this, .inr (11, [.ref q_town, .ref q_ahead, .ref q_kept, .int f_isKept, .ref q_past, .ref q_reason, .ref q_orders, .ref q_ways, .ref q_sheet])), (q_town, .inr (9, [.ref q_town_houses, .ref q_town_halls, .ref q_town_posts, .ref q_town_blocks, .ref q_town_kinds, .int f_town_hour, .int f_town_day, .int f_town_prankHouse, .int f_town_bells, .int f_town_echoes, .int f_town_bellPranks])), (q_town_houses, .inr (3, [.int f_town_houses_size, .ref q_town_houses_cells, .ref q_town_houses_froms, .ref q_town_houses_tos, .ref q_town_houses_rings, .ref q_town_houses_pranks])), (q_town_houses_rings, .inl (g 0, 10, .inl a_town_houses_rings)), (q_town_houses_pranks, .inl (g 0, 10, .inl a_town_houses_pranks))]) 22 [(2, .int x2)] [.int t0] := by
    intro t0 x2 h
    obtain ⟨o3, e4, h⟩ := bnd_p h
    refine z_exS (rest := []) (ws' := [(q_this, .inr (11, [.ref q_town, .ref q_ahead, .ref q_kept, .int f_isKept, .ref q_past, .ref q_reason, .ref q_orders, .ref q_ways, .ref q_sheet])), (q_town, .inr (9, [.ref q_town_houses, .ref q_town_halls, .ref q_town_posts, .ref q_town_blocks, .ref q_town_kinds, .int f_town_hour, .int f_town_day, .int f_town_prankHouse, .int f_town_bells, .int f_town_echoes, .int f_town_bellPranks])), (q_town_houses, .inr (3, [.int f_town_houses_size, .ref q_town_houses_cells, .ref q_town_houses_froms, .ref q_town_houses_tos, .ref q_town_houses_rings, .ref q_town_houses_pranks])), (q_town_houses_rings, .inl (g 0, 10, .inl a_town_houses_rings)), (q_town_houses_pranks, .inl (g 0, 10, .inl a_town_houses_pranks))]) X hE hA k_X11_demandFound (c_X11_demandFound l hfl ak av aS D g t0 o3 e4) ql_X11_X11_demandFound dX11_ranked_22 bkc_nil bk_nil rfl rfl ⟨Nat.le_of_ble_eq_true rfl, Nat.le_of_ble_eq_true rfl, rfl, rfl, Nat.le_of_ble_eq_true rfl, Nat.le_of_ble_eq_true rfl⟩ (Nat.le_of_ble_eq_true rfl) (fun x5 => ?_) (fun x5 => ?_)
    · have h := brn_t h x5
      refine z_iload_n X 0 dX11_ranked_25 rfl rfl ?_
      cases h
      exact z_iretX X hQ (Nat.le_of_ble_eq_true rfl) (Nat.le_of_ble_eq_true rfl) hr dX11_ranked_26
    · have h := brn_f h x5
      cases h
      exact zt_out (lv := [(2, .int x2)]) X hno hQ x5 (Nat.le_of_ble_eq_true rfl) (Nat.le_of_ble_eq_true rfl)
  refine z_aload_n X 0 dX11_ranked_0 rfl rfl ?_
  refine z_get (q0 := 0) (k := 0) (ci := 11) X IW_P iw_X11 rfl qf_X11_X11_town (by decide) dX11_ranked_1 rfl rfl ?_
  refine z_getN (q0 := 1) (k := 0) (ci := 9) X IW_P iw_X9 rfl qfN_X11_X9_houses (by decide) dX11_ranked_4 rfl rfl ?_
  refine z_iload_n X 1 dX11_ranked_7 rfl rfl ?_
  obtain ⟨o1, e2, h⟩ := bnd_p h
  refine z_rdV (rest := []) (q0 := 2) (ci := 3) X IW_P k_X2_atRank (c_X2_atRank l D g q_town_houses q_town_houses_cells q_town_houses_froms q_town_houses_tos q_town_houses_rings q_town_houses_pranks p1 f_town_houses_size a_town_houses_rings a_town_houses_pranks o1 e2) ql_X11_X2_atRank dX11_ranked_8 [2, 3, 4] rfl rfl rfl rfl rfl rfl ⟨Nat.le_of_ble_eq_true rfl, Nat.le_of_ble_eq_true rfl, rfl, rfl, Nat.le_of_ble_eq_true rfl, Nat.le_of_ble_eq_true rfl⟩ (Nat.le_of_ble_eq_true rfl) ?_
  refine z_istore_n X [(2, .int o1), (0, .ref q_this), (1, .int p1)] dX11_ranked_11 rfl (by decide) rfl ?_
  refine z_iload_n X 0 dX11_ranked_12 rfl rfl ?_
  refine z_iconst X ((-1) : Int32) dX11_ranked_13 (by decide) ?_
  refine z_icmp_eq X 21 dX11_ranked_14 (by decide) h (fun _ h => ?_) (fun _ h => ?_)
  · refine z_iconst X (0 : Int32) dX11_ranked_21 (by decide) ?_
    refine z_widen (k := 0) (n := 0) (Nat.le_of_ble_eq_true rfl) (Nat.le_of_ble_eq_true rfl) ?_
    refine z_sub (lv' := [(2, .int o1)]) [0] rfl ?_
    exact H22 (0 : Int32) o1 h
  · refine z_iconst X (1 : Int32) dX11_ranked_17 (by decide) ?_
    refine z_goto X 22 dX11_ranked_18 (by decide) ?_
    refine z_widen (k := 0) (n := 0) (Nat.le_of_ble_eq_true rfl) (Nat.le_of_ble_eq_true rfl) ?_
    refine z_sub (lv' := [(2, .int o1)]) [0] rfl ?_
    exact H22 (1 : Int32) o1 h

def F_X11_line (p1 : Int32) (f_town_houses_size : Int32) (a_town_houses_cells : Nat → Int32) (f_town_halls_size : Int32) (a_town_halls_rows : Nat → Int32) (a_town_halls_firsts : Nat → Int32) (a_town_halls_lasts : Nat → Int32) (f_town_posts_size : Int32) (a_town_posts_cells : Nat → Int32) (a_town_blocks : Nat → Int32) (f_sheet_size : Int32) (a_sheet_signs : Nat → Int32) : Option (Nat × Int32 × Int32 × (Nat → Int32)) :=
  bnd (F_X11_isLane p1) (fun o1 => bnd (F_X11_demandProper o1) (fun o3 => brn (o3 = 0) (bnd (F_X8_writeRow p1 f_town_houses_size a_town_houses_cells f_town_halls_size a_town_halls_rows a_town_halls_firsts a_town_halls_lasts f_town_posts_size a_town_posts_cells a_town_blocks f_sheet_size a_sheet_signs) (fun o6 => some (0, o6.1, o6.2.1, o6.2.2))) (some (o3, (0 : Int32), f_sheet_size, a_sheet_signs))))
theorem dX11_line_0 : decode cX11_line 0 = .ok (.iload_n 1, 1) := by decide +kernel
theorem dX11_line_1 : decode cX11_line 1 = .ok (.invokestatic 266, 3) := by decide +kernel
theorem dX11_line_4 : decode cX11_line 4 = .ok (.invokestatic 124, 3) := by decide +kernel
theorem dX11_line_7 : decode cX11_line 7 = .ok (.aload_n 0, 1) := by decide +kernel
theorem dX11_line_8 : decode cX11_line 8 = .ok (.getfield 57, 3) := by decide +kernel
theorem dX11_line_11 : decode cX11_line 11 = .ok (.aload_n 0, 1) := by decide +kernel
theorem dX11_line_12 : decode cX11_line 12 = .ok (.getfield 10, 3) := by decide +kernel
theorem dX11_line_15 : decode cX11_line 15 = .ok (.iload_n 1, 1) := by decide +kernel
theorem dX11_line_16 : decode cX11_line 16 = .ok (.invokevirtual 269, 3) := by decide +kernel
theorem dX11_line_19 : decode cX11_line 19 = .ok (.ireturn, 1) := by decide +kernel
theorem k_X11_line : cardV yX11_line (Cond.code yX11_line cX11_line 2 (some .int)) 1 := ⟨⟨qi_X11_line, qv_X11_line⟩, qc_X11_line, qn_X11, by decide +kernel, by decide +kernel, by decide +kernel⟩
set_option maxHeartbeats 4000000 in
set_option maxRecDepth 100000 in
theorem c_X11_line (l : Launch) (hfl : l.stackTraces = false) (ak av : Nat → Nat) (aS : Nat) (D : va_G) (g : Nat → ClassId) (q_this q_town q_ahead q_kept q_past q_reason q_orders q_ways q_sheet q_town_houses q_town_halls q_town_posts q_town_blocks q_town_kinds q_town_houses_cells q_town_houses_froms q_town_houses_tos q_town_houses_rings q_town_houses_pranks q_town_halls_rows q_town_halls_firsts q_town_halls_lasts q_town_posts_cells q_town_posts_tolds q_sheet_signs : Nat) (p1 : Int32) (f_isKept : Int32) (f_town_hour : Int32) (f_town_day : Int32) (f_town_prankHouse : Int32) (f_town_bells : Int32) (f_town_echoes : Int32) (f_town_bellPranks : Int32) (f_town_houses_size : Int32) (a_town_houses_cells : Nat → Int32) (f_town_halls_size : Int32) (a_town_halls_rows : Nat → Int32) (a_town_halls_firsts : Nat → Int32) (a_town_halls_lasts : Nat → Int32) (f_town_posts_size : Int32) (a_town_posts_cells : Nat → Int32) (a_town_blocks : Nat → Int32) (f_sheet_size : Int32) (a_sheet_signs : Nat → Int32) (o : Nat × Int32 × Int32 × (Nat → Int32)) (h : F_X11_line p1 f_town_houses_size a_town_houses_cells f_town_halls_size a_town_halls_rows a_town_halls_firsts a_town_halls_lasts f_town_posts_size a_town_posts_cells a_town_blocks f_sheet_size a_sheet_signs = some o) : MX l yX11_line (Cond.code yX11_line cX11_line 2 (some .int)) { frames := 8, cells := 1, slots := 6, locals := 130 } ak av aS D g [.ref q_this, .int p1] [(q_this, .inr (11, [.ref q_town, .ref q_ahead, .ref q_kept, .int f_isKept, .ref q_past, .ref q_reason, .ref q_orders, .ref q_ways, .ref q_sheet])), (q_town, .inr (9, [.ref q_town_houses, .ref q_town_halls, .ref q_town_posts, .ref q_town_blocks, .ref q_town_kinds, .int f_town_hour, .int f_town_day, .int f_town_prankHouse, .int f_town_bells, .int f_town_echoes, .int f_town_bellPranks])), (q_town_houses, .inr (3, [.int f_town_houses_size, .ref q_town_houses_cells, .ref q_town_houses_froms, .ref q_town_houses_tos, .ref q_town_houses_rings, .ref q_town_houses_pranks])), (q_town_houses_cells, .inl (g 0, 10, .inl a_town_houses_cells)), (q_town_halls, .inr (2, [.int f_town_halls_size, .ref q_town_halls_rows, .ref q_town_halls_firsts, .ref q_town_halls_lasts])), (q_town_halls_rows, .inl (g 0, 4, .inl a_town_halls_rows)), (q_town_halls_firsts, .inl (g 0, 4, .inl a_town_halls_firsts)), (q_town_halls_lasts, .inl (g 0, 4, .inl a_town_halls_lasts)), (q_town_posts, .inr (6, [.int f_town_posts_size, .ref q_town_posts_cells, .ref q_town_posts_tolds])), (q_town_posts_cells, .inl (g 0, 4, .inl a_town_posts_cells)), (q_town_blocks, .inl (g 0, 64, .inl a_town_blocks)), (q_sheet, .inr (8, [.ref q_sheet_signs, .int f_sheet_size])), (q_sheet_signs, .inl (g 1, 20, .inl a_sheet_signs))] o.1 (some (.int o.2.1)) [(q_this, .inr (11, [.ref q_town, .ref q_ahead, .ref q_kept, .int f_isKept, .ref q_past, .ref q_reason, .ref q_orders, .ref q_ways, .ref q_sheet])), (q_town, .inr (9, [.ref q_town_houses, .ref q_town_halls, .ref q_town_posts, .ref q_town_blocks, .ref q_town_kinds, .int f_town_hour, .int f_town_day, .int f_town_prankHouse, .int f_town_bells, .int f_town_echoes, .int f_town_bellPranks])), (q_town_houses, .inr (3, [.int f_town_houses_size, .ref q_town_houses_cells, .ref q_town_houses_froms, .ref q_town_houses_tos, .ref q_town_houses_rings, .ref q_town_houses_pranks])), (q_town_houses_cells, .inl (g 0, 10, .inl a_town_houses_cells)), (q_town_halls, .inr (2, [.int f_town_halls_size, .ref q_town_halls_rows, .ref q_town_halls_firsts, .ref q_town_halls_lasts])), (q_town_halls_rows, .inl (g 0, 4, .inl a_town_halls_rows)), (q_town_halls_firsts, .inl (g 0, 4, .inl a_town_halls_firsts)), (q_town_halls_lasts, .inl (g 0, 4, .inl a_town_halls_lasts)), (q_town_posts, .inr (6, [.int f_town_posts_size, .ref q_town_posts_cells, .ref q_town_posts_tolds])), (q_town_posts_cells, .inl (g 0, 4, .inl a_town_posts_cells)), (q_town_blocks, .inl (g 0, 64, .inl a_town_blocks)), (q_sheet, .inr (8, [.ref q_sheet_signs, .int o.2.2.1])), (q_sheet_signs, .inl (g 1, 20, .inl o.2.2.2))] 1 6 := by
  refine z_ex_start (by decide) (Nat.le_of_ble_eq_true rfl) ?_
  intro p e s m args below meth c Q A X hr hE hA hno hQ
  refine z_lv (lv' := [(0, .ref q_this), (1, .int p1)]) rfl ?_
  refine z_iload_n X 1 dX11_line_0 rfl rfl ?_
  obtain ⟨o1, e2, h⟩ := bnd_p h
  refine z_rdS (rest := []) X IW_P k_X11_isLane (c_X11_isLane l D g p1 o1 e2) ql_X11_X11_isLane dX11_line_1 [] rfl rfl rfl ⟨Nat.le_of_ble_eq_true rfl, Nat.le_of_ble_eq_true rfl, rfl, rfl, Nat.le_of_ble_eq_true rfl, Nat.le_of_ble_eq_true rfl⟩ (Nat.le_of_ble_eq_true rfl) ?_
  obtain ⟨o3, e4, h⟩ := bnd_p h
  refine z_exS (rest := []) (ws' := [(q_this, .inr (11, [.ref q_town, .ref q_ahead, .ref q_kept, .int f_isKept, .ref q_past, .ref q_reason, .ref q_orders, .ref q_ways, .ref q_sheet])), (q_town, .inr (9, [.ref q_town_houses, .ref q_town_halls, .ref q_town_posts, .ref q_town_blocks, .ref q_town_kinds, .int f_town_hour, .int f_town_day, .int f_town_prankHouse, .int f_town_bells, .int f_town_echoes, .int f_town_bellPranks])), (q_town_houses, .inr (3, [.int f_town_houses_size, .ref q_town_houses_cells, .ref q_town_houses_froms, .ref q_town_houses_tos, .ref q_town_houses_rings, .ref q_town_houses_pranks])), (q_town_houses_cells, .inl (g 0, 10, .inl a_town_houses_cells)), (q_town_halls, .inr (2, [.int f_town_halls_size, .ref q_town_halls_rows, .ref q_town_halls_firsts, .ref q_town_halls_lasts])), (q_town_halls_rows, .inl (g 0, 4, .inl a_town_halls_rows)), (q_town_halls_firsts, .inl (g 0, 4, .inl a_town_halls_firsts)), (q_town_halls_lasts, .inl (g 0, 4, .inl a_town_halls_lasts)), (q_town_posts, .inr (6, [.int f_town_posts_size, .ref q_town_posts_cells, .ref q_town_posts_tolds])), (q_town_posts_cells, .inl (g 0, 4, .inl a_town_posts_cells)), (q_town_blocks, .inl (g 0, 64, .inl a_town_blocks)), (q_sheet, .inr (8, [.ref q_sheet_signs, .int f_sheet_size])), (q_sheet_signs, .inl (g 1, 20, .inl a_sheet_signs))]) X hE hA k_X11_demandProper (c_X11_demandProper l hfl ak av aS D g o1 o3 e4) ql_X11_X11_demandProper dX11_line_4 bkc_nil bk_nil rfl rfl ⟨Nat.le_of_ble_eq_true rfl, Nat.le_of_ble_eq_true rfl, rfl, rfl, Nat.le_of_ble_eq_true rfl, Nat.le_of_ble_eq_true rfl⟩ (Nat.le_of_ble_eq_true rfl) (fun x5 => ?_) (fun x5 => ?_)
  · have h := brn_t h x5
    refine z_aload_n X 0 dX11_line_7 rfl rfl ?_
    refine z_get (q0 := 0) (k := 8) (ci := 11) X IW_P iw_X11 rfl qf_X11_X11_sheet (by decide) dX11_line_8 rfl rfl ?_
    refine z_aload_n X 0 dX11_line_11 rfl rfl ?_
    refine z_get (q0 := 0) (k := 0) (ci := 11) X IW_P iw_X11 rfl qf_X11_X11_town (by decide) dX11_line_12 rfl rfl ?_
    refine z_iload_n X 1 dX11_line_15 rfl rfl ?_
    obtain ⟨o6, e7, h⟩ := bnd_p h
    refine z_wrV (rest := []) (q0 := 11) (ci := 8) (ws' := [(q_this, .inr (11, [.ref q_town, .ref q_ahead, .ref q_kept, .int f_isKept, .ref q_past, .ref q_reason, .ref q_orders, .ref q_ways, .ref q_sheet])), (q_town, .inr (9, [.ref q_town_houses, .ref q_town_halls, .ref q_town_posts, .ref q_town_blocks, .ref q_town_kinds, .int f_town_hour, .int f_town_day, .int f_town_prankHouse, .int f_town_bells, .int f_town_echoes, .int f_town_bellPranks])), (q_town_houses, .inr (3, [.int f_town_houses_size, .ref q_town_houses_cells, .ref q_town_houses_froms, .ref q_town_houses_tos, .ref q_town_houses_rings, .ref q_town_houses_pranks])), (q_town_houses_cells, .inl (g 0, 10, .inl a_town_houses_cells)), (q_town_halls, .inr (2, [.int f_town_halls_size, .ref q_town_halls_rows, .ref q_town_halls_firsts, .ref q_town_halls_lasts])), (q_town_halls_rows, .inl (g 0, 4, .inl a_town_halls_rows)), (q_town_halls_firsts, .inl (g 0, 4, .inl a_town_halls_firsts)), (q_town_halls_lasts, .inl (g 0, 4, .inl a_town_halls_lasts)), (q_town_posts, .inr (6, [.int f_town_posts_size, .ref q_town_posts_cells, .ref q_town_posts_tolds])), (q_town_posts_cells, .inl (g 0, 4, .inl a_town_posts_cells)), (q_town_blocks, .inl (g 0, 64, .inl a_town_blocks)), (q_sheet, .inr (8, [.ref q_sheet_signs, .int o6.2.1])), (q_sheet_signs, .inl (g 1, 20, .inl o6.2.2))]) (wr := [(q_this, .inr (11, [.ref q_town, .ref q_ahead, .ref q_kept, .int f_isKept, .ref q_past, .ref q_reason, .ref q_orders, .ref q_ways, .ref q_sheet]))]) (as := [q_this, q_town, q_town_houses, q_town_houses_cells, q_town_halls, q_town_halls_rows, q_town_halls_firsts, q_town_halls_lasts, q_town_posts, q_town_posts_cells, q_town_blocks, q_sheet, q_sheet_signs]) X k_X8_writeRow (c_X8_writeRow l D g q_sheet q_sheet_signs q_town q_town_houses q_town_halls q_town_posts q_town_blocks q_town_kinds q_town_houses_cells q_town_houses_froms q_town_houses_tos q_town_houses_rings q_town_houses_pranks q_town_halls_rows q_town_halls_firsts q_town_halls_lasts q_town_posts_cells q_town_posts_tolds p1 f_sheet_size a_sheet_signs f_town_hour f_town_day f_town_prankHouse f_town_bells f_town_echoes f_town_bellPranks f_town_houses_size a_town_houses_cells f_town_halls_size a_town_halls_rows a_town_halls_firsts a_town_halls_lasts f_town_posts_size a_town_posts_cells a_town_blocks o6 e7) ql_X11_X8_writeRow dX11_line_16 [11, 12, 1, 2, 3, 4, 5, 6, 7, 8, 9, 10] [0] ⟨rfl, rfl, rfl, rfl, rfl, rfl, rfl, rfl⟩ rfl rfl rfl rfl rfl ⟨Nat.le_of_ble_eq_true rfl, Nat.le_of_ble_eq_true rfl, rfl, rfl, Nat.le_of_ble_eq_true rfl, Nat.le_of_ble_eq_true rfl⟩ (Nat.le_of_ble_eq_true rfl) ?_
    cases h
    exact z_iretX X hQ (Nat.le_of_ble_eq_true rfl) (Nat.le_of_ble_eq_true rfl) hr dX11_line_19
  · have h := brn_f h x5
    cases h
    exact zt_out (lv := [(0, .ref q_this), (1, .int p1)]) X hno hQ x5 (Nat.le_of_ble_eq_true rfl) (Nat.le_of_ble_eq_true rfl)

def F_X11_houseLine (p1 : Int32) (f_town_hour : Int32) (f_town_houses_size : Int32) (a_town_houses_cells : Nat → Int32) (a_town_houses_froms : Nat → Int32) (a_town_houses_tos : Nat → Int32) (a_town_houses_pranks : Nat → Int32) (f_sheet_size : Int32) (a_sheet_signs : Nat → Int32) : Option (Nat × Int32 × Int32 × (Nat → Int32)) :=
  bnd (F_X2_has p1 f_town_houses_size) (fun o1 => bnd (F_X11_demandListed o1) (fun o3 => brn (o3 = 0) (bnd (F_X8_writeHouse p1 f_town_hour a_town_houses_cells a_town_houses_froms a_town_houses_tos a_town_houses_pranks f_sheet_size a_sheet_signs) (fun o6 => some (0, o6.1, o6.2.1, o6.2.2))) (some (o3, (0 : Int32), f_sheet_size, a_sheet_signs))))
theorem dX11_houseLine_0 : decode cX11_houseLine 0 = .ok (.aload_n 0, 1) := by decide +kernel
theorem dX11_houseLine_1 : decode cX11_houseLine 1 = .ok (.getfield 10, 3) := by decide +kernel
theorem dX11_houseLine_4 : decode cX11_houseLine 4 = .ok (.getfield 73, 3) := by decide +kernel
theorem dX11_houseLine_7 : decode cX11_houseLine 7 = .ok (.iload_n 1, 1) := by decide +kernel
theorem dX11_houseLine_8 : decode cX11_houseLine 8 = .ok (.invokevirtual 83, 3) := by decide +kernel
theorem dX11_houseLine_11 : decode cX11_houseLine 11 = .ok (.invokestatic 87, 3) := by decide +kernel
theorem dX11_houseLine_14 : decode cX11_houseLine 14 = .ok (.aload_n 0, 1) := by decide +kernel
theorem dX11_houseLine_15 : decode cX11_houseLine 15 = .ok (.getfield 57, 3) := by decide +kernel
theorem dX11_houseLine_18 : decode cX11_houseLine 18 = .ok (.aload_n 0, 1) := by decide +kernel
theorem dX11_houseLine_19 : decode cX11_houseLine 19 = .ok (.getfield 10, 3) := by decide +kernel
theorem dX11_houseLine_22 : decode cX11_houseLine 22 = .ok (.getfield 73, 3) := by decide +kernel
theorem dX11_houseLine_25 : decode cX11_houseLine 25 = .ok (.iload_n 1, 1) := by decide +kernel
theorem dX11_houseLine_26 : decode cX11_houseLine 26 = .ok (.aload_n 0, 1) := by decide +kernel
theorem dX11_houseLine_27 : decode cX11_houseLine 27 = .ok (.getfield 10, 3) := by decide +kernel
theorem dX11_houseLine_30 : decode cX11_houseLine 30 = .ok (.getfield 145, 3) := by decide +kernel
theorem dX11_houseLine_33 : decode cX11_houseLine 33 = .ok (.invokevirtual 273, 3) := by decide +kernel
theorem dX11_houseLine_36 : decode cX11_houseLine 36 = .ok (.ireturn, 1) := by decide +kernel
theorem k_X11_houseLine : cardV yX11_houseLine (Cond.code yX11_houseLine cX11_houseLine 2 (some .int)) 1 := ⟨⟨qi_X11_houseLine, qv_X11_houseLine⟩, qc_X11_houseLine, qn_X11, by decide +kernel, by decide +kernel, by decide +kernel⟩
set_option maxHeartbeats 4000000 in
set_option maxRecDepth 100000 in
theorem c_X11_houseLine (l : Launch) (hfl : l.stackTraces = false) (ak av : Nat → Nat) (aS : Nat) (D : va_G) (g : Nat → ClassId) (q_this q_town q_ahead q_kept q_past q_reason q_orders q_ways q_sheet q_town_houses q_town_halls q_town_posts q_town_blocks q_town_kinds q_town_houses_cells q_town_houses_froms q_town_houses_tos q_town_houses_rings q_town_houses_pranks q_sheet_signs : Nat) (p1 : Int32) (f_isKept : Int32) (f_town_hour : Int32) (f_town_day : Int32) (f_town_prankHouse : Int32) (f_town_bells : Int32) (f_town_echoes : Int32) (f_town_bellPranks : Int32) (f_town_houses_size : Int32) (a_town_houses_cells : Nat → Int32) (a_town_houses_froms : Nat → Int32) (a_town_houses_tos : Nat → Int32) (a_town_houses_pranks : Nat → Int32) (f_sheet_size : Int32) (a_sheet_signs : Nat → Int32) (o : Nat × Int32 × Int32 × (Nat → Int32)) (h : F_X11_houseLine p1 f_town_hour f_town_houses_size a_town_houses_cells a_town_houses_froms a_town_houses_tos a_town_houses_pranks f_sheet_size a_sheet_signs = some o) : MX l yX11_houseLine (Cond.code yX11_houseLine cX11_houseLine 2 (some .int)) { frames := 8, cells := 1, slots := 6, locals := 130 } ak av aS D g [.ref q_this, .int p1] [(q_this, .inr (11, [.ref q_town, .ref q_ahead, .ref q_kept, .int f_isKept, .ref q_past, .ref q_reason, .ref q_orders, .ref q_ways, .ref q_sheet])), (q_town, .inr (9, [.ref q_town_houses, .ref q_town_halls, .ref q_town_posts, .ref q_town_blocks, .ref q_town_kinds, .int f_town_hour, .int f_town_day, .int f_town_prankHouse, .int f_town_bells, .int f_town_echoes, .int f_town_bellPranks])), (q_town_houses, .inr (3, [.int f_town_houses_size, .ref q_town_houses_cells, .ref q_town_houses_froms, .ref q_town_houses_tos, .ref q_town_houses_rings, .ref q_town_houses_pranks])), (q_town_houses_cells, .inl (g 0, 10, .inl a_town_houses_cells)), (q_town_houses_froms, .inl (g 0, 10, .inl a_town_houses_froms)), (q_town_houses_tos, .inl (g 0, 10, .inl a_town_houses_tos)), (q_town_houses_pranks, .inl (g 0, 10, .inl a_town_houses_pranks)), (q_sheet, .inr (8, [.ref q_sheet_signs, .int f_sheet_size])), (q_sheet_signs, .inl (g 1, 20, .inl a_sheet_signs))] o.1 (some (.int o.2.1)) [(q_this, .inr (11, [.ref q_town, .ref q_ahead, .ref q_kept, .int f_isKept, .ref q_past, .ref q_reason, .ref q_orders, .ref q_ways, .ref q_sheet])), (q_town, .inr (9, [.ref q_town_houses, .ref q_town_halls, .ref q_town_posts, .ref q_town_blocks, .ref q_town_kinds, .int f_town_hour, .int f_town_day, .int f_town_prankHouse, .int f_town_bells, .int f_town_echoes, .int f_town_bellPranks])), (q_town_houses, .inr (3, [.int f_town_houses_size, .ref q_town_houses_cells, .ref q_town_houses_froms, .ref q_town_houses_tos, .ref q_town_houses_rings, .ref q_town_houses_pranks])), (q_town_houses_cells, .inl (g 0, 10, .inl a_town_houses_cells)), (q_town_houses_froms, .inl (g 0, 10, .inl a_town_houses_froms)), (q_town_houses_tos, .inl (g 0, 10, .inl a_town_houses_tos)), (q_town_houses_pranks, .inl (g 0, 10, .inl a_town_houses_pranks)), (q_sheet, .inr (8, [.ref q_sheet_signs, .int o.2.2.1])), (q_sheet_signs, .inl (g 1, 20, .inl o.2.2.2))] 1 6 := by
  refine z_ex_start (by decide) (Nat.le_of_ble_eq_true rfl) ?_
  intro p e s m args below meth c Q A X hr hE hA hno hQ
  refine z_lv (lv' := [(0, .ref q_this), (1, .int p1)]) rfl ?_
  refine z_aload_n X 0 dX11_houseLine_0 rfl rfl ?_
  refine z_get (q0 := 0) (k := 0) (ci := 11) X IW_P iw_X11 rfl qf_X11_X11_town (by decide) dX11_houseLine_1 rfl rfl ?_
  refine z_getN (q0 := 1) (k := 0) (ci := 9) X IW_P iw_X9 rfl qfN_X11_X9_houses (by decide) dX11_houseLine_4 rfl rfl ?_
  refine z_iload_n X 1 dX11_houseLine_7 rfl rfl ?_
  obtain ⟨o1, e2, h⟩ := bnd_p h
  refine z_rdV (rest := []) (q0 := 2) (ci := 3) X IW_P k_X2_has (c_X2_has l D g q_town_houses q_town_houses_cells q_town_houses_froms q_town_houses_tos q_town_houses_rings q_town_houses_pranks p1 f_town_houses_size o1 e2) ql_X11_X2_has dX11_houseLine_8 [2] rfl rfl rfl rfl rfl rfl ⟨Nat.le_of_ble_eq_true rfl, Nat.le_of_ble_eq_true rfl, rfl, rfl, Nat.le_of_ble_eq_true rfl, Nat.le_of_ble_eq_true rfl⟩ (Nat.le_of_ble_eq_true rfl) ?_
  obtain ⟨o3, e4, h⟩ := bnd_p h
  refine z_exS (rest := []) (ws' := [(q_this, .inr (11, [.ref q_town, .ref q_ahead, .ref q_kept, .int f_isKept, .ref q_past, .ref q_reason, .ref q_orders, .ref q_ways, .ref q_sheet])), (q_town, .inr (9, [.ref q_town_houses, .ref q_town_halls, .ref q_town_posts, .ref q_town_blocks, .ref q_town_kinds, .int f_town_hour, .int f_town_day, .int f_town_prankHouse, .int f_town_bells, .int f_town_echoes, .int f_town_bellPranks])), (q_town_houses, .inr (3, [.int f_town_houses_size, .ref q_town_houses_cells, .ref q_town_houses_froms, .ref q_town_houses_tos, .ref q_town_houses_rings, .ref q_town_houses_pranks])), (q_town_houses_cells, .inl (g 0, 10, .inl a_town_houses_cells)), (q_town_houses_froms, .inl (g 0, 10, .inl a_town_houses_froms)), (q_town_houses_tos, .inl (g 0, 10, .inl a_town_houses_tos)), (q_town_houses_pranks, .inl (g 0, 10, .inl a_town_houses_pranks)), (q_sheet, .inr (8, [.ref q_sheet_signs, .int f_sheet_size])), (q_sheet_signs, .inl (g 1, 20, .inl a_sheet_signs))]) X hE hA k_X11_demandListed (c_X11_demandListed l hfl ak av aS D g o1 o3 e4) ql_X11_X11_demandListed dX11_houseLine_11 bkc_nil bk_nil rfl rfl ⟨Nat.le_of_ble_eq_true rfl, Nat.le_of_ble_eq_true rfl, rfl, rfl, Nat.le_of_ble_eq_true rfl, Nat.le_of_ble_eq_true rfl⟩ (Nat.le_of_ble_eq_true rfl) (fun x5 => ?_) (fun x5 => ?_)
  · have h := brn_t h x5
    refine z_aload_n X 0 dX11_houseLine_14 rfl rfl ?_
    refine z_get (q0 := 0) (k := 8) (ci := 11) X IW_P iw_X11 rfl qf_X11_X11_sheet (by decide) dX11_houseLine_15 rfl rfl ?_
    refine z_aload_n X 0 dX11_houseLine_18 rfl rfl ?_
    refine z_get (q0 := 0) (k := 0) (ci := 11) X IW_P iw_X11 rfl qf_X11_X11_town (by decide) dX11_houseLine_19 rfl rfl ?_
    refine z_getN (q0 := 1) (k := 0) (ci := 9) X IW_P iw_X9 rfl qfN_X11_X9_houses (by decide) dX11_houseLine_22 rfl rfl ?_
    refine z_iload_n X 1 dX11_houseLine_25 rfl rfl ?_
    refine z_aload_n X 0 dX11_houseLine_26 rfl rfl ?_
    refine z_get (q0 := 0) (k := 0) (ci := 11) X IW_P iw_X11 rfl qf_X11_X11_town (by decide) dX11_houseLine_27 rfl rfl ?_
    refine z_getN (q0 := 1) (k := 5) (ci := 9) X IW_P iw_X9 rfl qfN_X11_X9_hour (by decide) dX11_houseLine_30 rfl rfl ?_
    obtain ⟨o6, e7, h⟩ := bnd_p h
    refine z_wrV (rest := []) (q0 := 7) (ci := 8) (ws' := [(q_this, .inr (11, [.ref q_town, .ref q_ahead, .ref q_kept, .int f_isKept, .ref q_past, .ref q_reason, .ref q_orders, .ref q_ways, .ref q_sheet])), (q_town, .inr (9, [.ref q_town_houses, .ref q_town_halls, .ref q_town_posts, .ref q_town_blocks, .ref q_town_kinds, .int f_town_hour, .int f_town_day, .int f_town_prankHouse, .int f_town_bells, .int f_town_echoes, .int f_town_bellPranks])), (q_town_houses, .inr (3, [.int f_town_houses_size, .ref q_town_houses_cells, .ref q_town_houses_froms, .ref q_town_houses_tos, .ref q_town_houses_rings, .ref q_town_houses_pranks])), (q_town_houses_cells, .inl (g 0, 10, .inl a_town_houses_cells)), (q_town_houses_froms, .inl (g 0, 10, .inl a_town_houses_froms)), (q_town_houses_tos, .inl (g 0, 10, .inl a_town_houses_tos)), (q_town_houses_pranks, .inl (g 0, 10, .inl a_town_houses_pranks)), (q_sheet, .inr (8, [.ref q_sheet_signs, .int o6.2.1])), (q_sheet_signs, .inl (g 1, 20, .inl o6.2.2))]) (wr := [(q_this, .inr (11, [.ref q_town, .ref q_ahead, .ref q_kept, .int f_isKept, .ref q_past, .ref q_reason, .ref q_orders, .ref q_ways, .ref q_sheet])), (q_town, .inr (9, [.ref q_town_houses, .ref q_town_halls, .ref q_town_posts, .ref q_town_blocks, .ref q_town_kinds, .int f_town_hour, .int f_town_day, .int f_town_prankHouse, .int f_town_bells, .int f_town_echoes, .int f_town_bellPranks]))]) (as := [q_this, q_town, q_town_houses, q_town_houses_cells, q_town_houses_froms, q_town_houses_tos, q_town_houses_pranks, q_sheet, q_sheet_signs]) X k_X8_writeHouse (c_X8_writeHouse l D g q_sheet q_sheet_signs q_town_houses q_town_houses_cells q_town_houses_froms q_town_houses_tos q_town_houses_rings q_town_houses_pranks p1 f_town_hour f_sheet_size a_sheet_signs f_town_houses_size a_town_houses_cells a_town_houses_froms a_town_houses_tos a_town_houses_pranks o6 e7) ql_X11_X8_writeHouse dX11_houseLine_33 [7, 8, 2, 3, 4, 5, 6] [0, 1] ⟨rfl, rfl, rfl, rfl, rfl, rfl, rfl, rfl⟩ rfl rfl rfl rfl rfl ⟨Nat.le_of_ble_eq_true rfl, Nat.le_of_ble_eq_true rfl, rfl, rfl, Nat.le_of_ble_eq_true rfl, Nat.le_of_ble_eq_true rfl⟩ (Nat.le_of_ble_eq_true rfl) ?_
    cases h
    exact z_iretX X hQ (Nat.le_of_ble_eq_true rfl) (Nat.le_of_ble_eq_true rfl) hr dX11_houseLine_36
  · have h := brn_f h x5
    cases h
    exact zt_out (lv := [(0, .ref q_this), (1, .int p1)]) X hno hQ x5 (Nat.le_of_ble_eq_true rfl) (Nat.le_of_ble_eq_true rfl)

def F_X11_character (p1 : Int32) (f_sheet_size : Int32) (a_sheet_signs : Nat → Int32) : Option (Nat × Int32) :=
  bnd (F_X8_has p1 f_sheet_size) (fun o1 => bnd (F_X11_demandListed o1) (fun o3 => brn (o3 = 0) (bnd (F_X8_signAt p1 a_sheet_signs) (fun o6 => grd (vp_nar .char o6 = o6) (some (0, o6)))) (some (o3, (0 : Int32)))))
theorem dX11_character_0 : decode cX11_character 0 = .ok (.aload_n 0, 1) := by decide +kernel
theorem dX11_character_1 : decode cX11_character 1 = .ok (.getfield 57, 3) := by decide +kernel
theorem dX11_character_4 : decode cX11_character 4 = .ok (.iload_n 1, 1) := by decide +kernel
theorem dX11_character_5 : decode cX11_character 5 = .ok (.invokevirtual 277, 3) := by decide +kernel
theorem dX11_character_8 : decode cX11_character 8 = .ok (.invokestatic 87, 3) := by decide +kernel
theorem dX11_character_11 : decode cX11_character 11 = .ok (.aload_n 0, 1) := by decide +kernel
theorem dX11_character_12 : decode cX11_character 12 = .ok (.getfield 57, 3) := by decide +kernel
theorem dX11_character_15 : decode cX11_character 15 = .ok (.iload_n 1, 1) := by decide +kernel
theorem dX11_character_16 : decode cX11_character 16 = .ok (.invokevirtual 278, 3) := by decide +kernel
theorem dX11_character_19 : decode cX11_character 19 = .ok (.ireturn, 1) := by decide +kernel
theorem k_X11_character : cardV yX11_character (Cond.code yX11_character cX11_character 2 (some .char)) 1 := ⟨⟨qi_X11_character, qv_X11_character⟩, qc_X11_character, qn_X11, by decide +kernel, by decide +kernel, by decide +kernel⟩
set_option maxHeartbeats 4000000 in
set_option maxRecDepth 100000 in
theorem c_X11_character (l : Launch) (hfl : l.stackTraces = false) (ak av : Nat → Nat) (aS : Nat) (D : va_G) (g : Nat → ClassId) (q_this q_town q_ahead q_kept q_past q_reason q_orders q_ways q_sheet q_sheet_signs : Nat) (p1 : Int32) (f_isKept : Int32) (f_sheet_size : Int32) (a_sheet_signs : Nat → Int32) (o : Nat × Int32) (h : F_X11_character p1 f_sheet_size a_sheet_signs = some o) : MX l yX11_character (Cond.code yX11_character cX11_character 2 (some .char)) { frames := 8, cells := 1, slots := 6, locals := 130 } ak av aS D g [.ref q_this, .int p1] [(q_this, .inr (11, [.ref q_town, .ref q_ahead, .ref q_kept, .int f_isKept, .ref q_past, .ref q_reason, .ref q_orders, .ref q_ways, .ref q_sheet])), (q_sheet, .inr (8, [.ref q_sheet_signs, .int f_sheet_size])), (q_sheet_signs, .inl (g 1, 20, .inl a_sheet_signs))] o.1 (some (.int o.2)) [(q_this, .inr (11, [.ref q_town, .ref q_ahead, .ref q_kept, .int f_isKept, .ref q_past, .ref q_reason, .ref q_orders, .ref q_ways, .ref q_sheet])), (q_sheet, .inr (8, [.ref q_sheet_signs, .int f_sheet_size])), (q_sheet_signs, .inl (g 1, 20, .inl a_sheet_signs))] 1 6 := by
  refine z_ex_start (by decide) (Nat.le_of_ble_eq_true rfl) ?_
  intro p e s m args below meth c Q A X hr hE hA hno hQ
  refine z_lv (lv' := [(0, .ref q_this), (1, .int p1)]) rfl ?_
  refine z_aload_n X 0 dX11_character_0 rfl rfl ?_
  refine z_get (q0 := 0) (k := 8) (ci := 11) X IW_P iw_X11 rfl qf_X11_X11_sheet (by decide) dX11_character_1 rfl rfl ?_
  refine z_iload_n X 1 dX11_character_4 rfl rfl ?_
  obtain ⟨o1, e2, h⟩ := bnd_p h
  refine z_rdV (rest := []) (q0 := 1) (ci := 8) X IW_P k_X8_has (c_X8_has l D g q_sheet q_sheet_signs p1 f_sheet_size o1 e2) ql_X11_X8_has dX11_character_5 [1] rfl rfl rfl rfl rfl rfl ⟨Nat.le_of_ble_eq_true rfl, Nat.le_of_ble_eq_true rfl, rfl, rfl, Nat.le_of_ble_eq_true rfl, Nat.le_of_ble_eq_true rfl⟩ (Nat.le_of_ble_eq_true rfl) ?_
  obtain ⟨o3, e4, h⟩ := bnd_p h
  refine z_exS (rest := []) (ws' := [(q_this, .inr (11, [.ref q_town, .ref q_ahead, .ref q_kept, .int f_isKept, .ref q_past, .ref q_reason, .ref q_orders, .ref q_ways, .ref q_sheet])), (q_sheet, .inr (8, [.ref q_sheet_signs, .int f_sheet_size])), (q_sheet_signs, .inl (g 1, 20, .inl a_sheet_signs))]) X hE hA k_X11_demandListed (c_X11_demandListed l hfl ak av aS D g o1 o3 e4) ql_X11_X11_demandListed dX11_character_8 bkc_nil bk_nil rfl rfl ⟨Nat.le_of_ble_eq_true rfl, Nat.le_of_ble_eq_true rfl, rfl, rfl, Nat.le_of_ble_eq_true rfl, Nat.le_of_ble_eq_true rfl⟩ (Nat.le_of_ble_eq_true rfl) (fun x5 => ?_) (fun x5 => ?_)
  · have h := brn_t h x5
    refine z_aload_n X 0 dX11_character_11 rfl rfl ?_
    refine z_get (q0 := 0) (k := 8) (ci := 11) X IW_P iw_X11 rfl qf_X11_X11_sheet (by decide) dX11_character_12 rfl rfl ?_
    refine z_iload_n X 1 dX11_character_15 rfl rfl ?_
    obtain ⟨o6, e7, h⟩ := bnd_p h
    refine z_rdV (rest := []) (q0 := 1) (ci := 8) X IW_P k_X8_signAt (c_X8_signAt l D g q_sheet q_sheet_signs p1 f_sheet_size a_sheet_signs o6 e7) ql_X11_X8_signAt dX11_character_16 [1, 2] rfl rfl rfl rfl rfl rfl ⟨Nat.le_of_ble_eq_true rfl, Nat.le_of_ble_eq_true rfl, rfl, rfl, Nat.le_of_ble_eq_true rfl, Nat.le_of_ble_eq_true rfl⟩ (Nat.le_of_ble_eq_true rfl) ?_
    obtain ⟨e8, h⟩ := grd_p h
    cases h
    exact z_zretX X hQ (Nat.le_of_ble_eq_true rfl) (Nat.le_of_ble_eq_true rfl) hr dX11_character_19 (nar_char e8)
  · have h := brn_f h x5
    cases h
    exact zt_out (lv := [(0, .ref q_this), (1, .int p1)]) X hno hQ x5 (Nat.le_of_ble_eq_true rfl) (Nat.le_of_ble_eq_true rfl)

def F_X11_demandReady (p0 : Int32) : Option (Nat) :=
  brn (p0 = 0) (some (5)) (some (0))
theorem dX11_demandReady_0 : decode cX11_demandReady 0 = .ok (.iload_n 0, 1) := by decide +kernel
theorem dX11_demandReady_1 : decode cX11_demandReady 1 = .ok (.ifCond .ne 14, 3) := by decide +kernel
theorem dX11_demandReady_4 : decode cX11_demandReady 4 = .ok (.new 380, 3) := by decide +kernel
theorem dX11_demandReady_7 : decode cX11_demandReady 7 = .ok (.dup, 1) := by decide +kernel
theorem dX11_demandReady_8 : decode cX11_demandReady 8 = .ok (.ldc_w 382, 3) := by decide +kernel
theorem dX11_demandReady_11 : decode cX11_demandReady 11 = .ok (.invokespecial 384, 3) := by decide +kernel
theorem dX11_demandReady_14 : decode cX11_demandReady 14 = .ok (.athrow, 1) := by decide +kernel
theorem dX11_demandReady_15 : decode cX11_demandReady 15 = .ok (.return_, 1) := by decide +kernel
theorem k_X11_demandReady : cardS yX11_demandReady (Cond.code yX11_demandReady cX11_demandReady 1 none) 1 := ⟨qs_X11_demandReady, qc_X11_demandReady, qn_X11, by decide +kernel, by decide +kernel, by decide +kernel⟩
set_option maxHeartbeats 4000000 in
set_option maxRecDepth 100000 in
theorem c_X11_demandReady (l : Launch) (hfl : l.stackTraces = false) (ak av : Nat → Nat) (aS : Nat) (D : va_G) (g : Nat → ClassId) (p0 : Int32) (o : Nat) (h : F_X11_demandReady p0 = some o) : MX l yX11_demandReady (Cond.code yX11_demandReady cX11_demandReady 1 none) { frames := 7, cells := 1, slots := 6, locals := 110 } ak av aS D g [.int p0] [] o none [] 1 6 := by
  refine z_ex_start (by decide) (Nat.le_of_ble_eq_true rfl) ?_
  intro p e s m args below meth c Q A X hr hE hA hno hQ
  refine z_lv (lv' := [(0, .int p0)]) rfl ?_
  refine z_iload_n X 0 dX11_demandReady_0 rfl rfl ?_
  refine z_if_ne X 15 dX11_demandReady_1 (by decide) h (fun _ h => ?_) (fun _ h => ?_)
  · cases h
    exact z_throw (names := ["java/lang/RuntimeException", "java/lang/Exception"]) (si := 4) X hE hno hfl hQ (by decide) (by decide +kernel) (by decide +kernel) rfl qk_X11_IllegalStateException qn_IllegalStateException (by decide) rfl rfl xt_5 xg_5 dX11_demandReady_4 dX11_demandReady_7 dX11_demandReady_8 dX11_demandReady_11 dX11_demandReady_14 (by decide) (Nat.le_of_ble_eq_true rfl) (Nat.le_of_ble_eq_true rfl) (Nat.le_of_ble_eq_true rfl) (Nat.le_of_ble_eq_true rfl) (Nat.le_of_ble_eq_true rfl)
  · cases h
    exact z_vretX X hQ (Nat.le_of_ble_eq_true rfl) (Nat.le_of_ble_eq_true rfl) hr dX11_demandReady_15

def J_X11_append_15 (p1 : Int32) (t0 : Int32) (f_orders_size : Int32) (a_orders_signs : Nat → Int32) : Option (Nat × Int32 × Int32 × (Nat → Int32)) :=
  bnd (F_X11_demandReady t0) (fun o3 => brn (o3 = 0) (bnd (F_X3_add p1 f_orders_size a_orders_signs) (fun o6 => some (0, o6.1, o6.2.1, o6.2.2))) (some (o3, (0 : Int32), f_orders_size, a_orders_signs)))

def F_X11_append (p1 : Int32) (f_orders_size : Int32) (a_orders_signs : Nat → Int32) : Option (Nat × Int32 × Int32 × (Nat → Int32)) :=
  bnd (F_X3_isFull f_orders_size) (fun o1 => brn (o1 = 0) (J_X11_append_15 p1 (1 : Int32) f_orders_size a_orders_signs) (J_X11_append_15 p1 (0 : Int32) f_orders_size a_orders_signs))
theorem dX11_append_0 : decode cX11_append 0 = .ok (.aload_n 0, 1) := by decide +kernel
theorem dX11_append_1 : decode cX11_append 1 = .ok (.getfield 43, 3) := by decide +kernel
theorem dX11_append_4 : decode cX11_append 4 = .ok (.invokevirtual 282, 3) := by decide +kernel
theorem dX11_append_7 : decode cX11_append 7 = .ok (.ifCond .ne 7, 3) := by decide +kernel
theorem dX11_append_10 : decode cX11_append 10 = .ok (.iconst 1, 1) := by decide +kernel
theorem dX11_append_11 : decode cX11_append 11 = .ok (.goto 4, 3) := by decide +kernel
theorem dX11_append_14 : decode cX11_append 14 = .ok (.iconst 0, 1) := by decide +kernel
theorem dX11_append_15 : decode cX11_append 15 = .ok (.invokestatic 285, 3) := by decide +kernel
theorem dX11_append_18 : decode cX11_append 18 = .ok (.aload_n 0, 1) := by decide +kernel
theorem dX11_append_19 : decode cX11_append 19 = .ok (.getfield 43, 3) := by decide +kernel
theorem dX11_append_22 : decode cX11_append 22 = .ok (.iload_n 1, 1) := by decide +kernel
theorem dX11_append_23 : decode cX11_append 23 = .ok (.invokevirtual 288, 3) := by decide +kernel
theorem dX11_append_26 : decode cX11_append 26 = .ok (.ireturn, 1) := by decide +kernel
theorem k_X11_append : cardV yX11_append (Cond.code yX11_append cX11_append 2 (some .int)) 1 := ⟨⟨qi_X11_append, qv_X11_append⟩, qc_X11_append, qn_X11, by decide +kernel, by decide +kernel, by decide +kernel⟩
set_option maxHeartbeats 4000000 in
set_option maxRecDepth 100000 in
theorem c_X11_append (l : Launch) (hfl : l.stackTraces = false) (ak av : Nat → Nat) (aS : Nat) (D : va_G) (g : Nat → ClassId) (q_this q_town q_ahead q_kept q_past q_reason q_orders q_ways q_sheet q_orders_signs q_orders_kinds q_orders_numbers : Nat) (p1 : Int32) (f_isKept : Int32) (f_orders_size : Int32) (f_orders_count : Int32) (f_orders_place : Int32) (f_orders_errorPlace : Int32) (a_orders_signs : Nat → Int32) (o : Nat × Int32 × Int32 × (Nat → Int32)) (h : F_X11_append p1 f_orders_size a_orders_signs = some o) : MX l yX11_append (Cond.code yX11_append cX11_append 2 (some .int)) { frames := 8, cells := 1, slots := 6, locals := 130 } ak av aS D g [.ref q_this, .int p1] [(q_this, .inr (11, [.ref q_town, .ref q_ahead, .ref q_kept, .int f_isKept, .ref q_past, .ref q_reason, .ref q_orders, .ref q_ways, .ref q_sheet])), (q_orders, .inr (4, [.ref q_orders_signs, .ref q_orders_kinds, .ref q_orders_numbers, .int f_orders_size, .int f_orders_count, .int f_orders_place, .int f_orders_errorPlace])), (q_orders_signs, .inl (g 1, 60, .inl a_orders_signs))] o.1 (some (.int o.2.1)) [(q_this, .inr (11, [.ref q_town, .ref q_ahead, .ref q_kept, .int f_isKept, .ref q_past, .ref q_reason, .ref q_orders, .ref q_ways, .ref q_sheet])), (q_orders, .inr (4, [.ref q_orders_signs, .ref q_orders_kinds, .ref q_orders_numbers, .int o.2.2.1, .int f_orders_count, .int f_orders_place, .int f_orders_errorPlace])), (q_orders_signs, .inl (g 1, 60, .inl o.2.2.2))] 1 6 := by
  refine z_ex_start (by decide) (Nat.le_of_ble_eq_true rfl) ?_
  intro p e s m args below meth c Q A X hr hE hA hno hQ
  refine z_lv (lv' := [(0, .ref q_this), (1, .int p1)]) rfl ?_
  have H15 : ∀ (t0 : Int32) (f_orders_size : Int32) (a_orders_signs : Nat → Int32), J_X11_append_15 p1 t0 f_orders_size a_orders_signs = some o → Z p l e { frames := 8, cells := 1, slots := 6, locals := 130 } s m args below meth c Q 2 0 0 (IW D A s [(q_this, .inr (11, [.ref q_town, .ref q_ahead, .ref q_kept, .int f_isKept, .ref q_past, .ref q_reason, .ref q_orders, .ref q_ways, .ref q_sheet])), (q_orders, .inr (4, [.ref q_orders_signs, .ref q_orders_kinds, .ref q_orders_numbers, .int f_orders_size, .int f_orders_count, .int f_orders_place, .int f_orders_errorPlace])), (q_orders_signs, .inl (g 1, 60, .inl a_orders_signs))]) 15 [(0, .ref q_this), (1, .int p1)] [.int t0] := by
    intro t0 f_orders_size a_orders_signs h
    obtain ⟨o3, e4, h⟩ := bnd_p h
    refine z_exS (rest := []) (ws' := [(q_this, .inr (11, [.ref q_town, .ref q_ahead, .ref q_kept, .int f_isKept, .ref q_past, .ref q_reason, .ref q_orders, .ref q_ways, .ref q_sheet])), (q_orders, .inr (4, [.ref q_orders_signs, .ref q_orders_kinds, .ref q_orders_numbers, .int f_orders_size, .int f_orders_count, .int f_orders_place, .int f_orders_errorPlace])), (q_orders_signs, .inl (g 1, 60, .inl a_orders_signs))]) X hE hA k_X11_demandReady (c_X11_demandReady l hfl ak av aS D g t0 o3 e4) ql_X11_X11_demandReady dX11_append_15 bkc_nil bk_nil rfl rfl ⟨Nat.le_of_ble_eq_true rfl, Nat.le_of_ble_eq_true rfl, rfl, rfl, Nat.le_of_ble_eq_true rfl, Nat.le_of_ble_eq_true rfl⟩ (Nat.le_of_ble_eq_true rfl) (fun x5 => ?_) (fun x5 => ?_)
    · have h := brn_t h x5
      refine z_aload_n X 0 dX11_append_18 rfl rfl ?_
      refine z_get (q0 := 0) (k := 6) (ci := 11) X IW_P iw_X11 rfl qf_X11_X11_orders (by decide) dX11_append_19 rfl rfl ?_
      refine z_iload_n X 1 dX11_append_22 rfl rfl ?_
      obtain ⟨o6, e7, h⟩ := bnd_p h
      refine z_wrV (rest := []) (q0 := 1) (ci := 4) (ws' := [(q_this, .inr (11, [.ref q_town, .ref q_ahead, .ref q_kept, .int f_isKept, .ref q_past, .ref q_reason, .ref q_orders, .ref q_ways, .ref q_sheet])), (q_orders, .inr (4, [.ref q_orders_signs, .ref q_orders_kinds, .ref q_orders_numbers, .int o6.2.1, .int f_orders_count, .int f_orders_place, .int f_orders_errorPlace])), (q_orders_signs, .inl (g 1, 60, .inl o6.2.2))]) (wr := [(q_this, .inr (11, [.ref q_town, .ref q_ahead, .ref q_kept, .int f_isKept, .ref q_past, .ref q_reason, .ref q_orders, .ref q_ways, .ref q_sheet]))]) (as := [q_this, q_orders, q_orders_signs]) X k_X3_add (c_X3_add l D g q_orders q_orders_signs q_orders_kinds q_orders_numbers p1 f_orders_size f_orders_count f_orders_place f_orders_errorPlace a_orders_signs o6 e7) ql_X11_X3_add dX11_append_23 [1, 2] [0] ⟨rfl, rfl, rfl, rfl, rfl, rfl, rfl, rfl⟩ rfl rfl rfl rfl rfl ⟨Nat.le_of_ble_eq_true rfl, Nat.le_of_ble_eq_true rfl, rfl, rfl, Nat.le_of_ble_eq_true rfl, Nat.le_of_ble_eq_true rfl⟩ (Nat.le_of_ble_eq_true rfl) ?_
      cases h
      exact z_iretX X hQ (Nat.le_of_ble_eq_true rfl) (Nat.le_of_ble_eq_true rfl) hr dX11_append_26
    · have h := brn_f h x5
      cases h
      exact zt_out (lv := [(0, .ref q_this), (1, .int p1)]) X hno hQ x5 (Nat.le_of_ble_eq_true rfl) (Nat.le_of_ble_eq_true rfl)
  refine z_aload_n X 0 dX11_append_0 rfl rfl ?_
  refine z_get (q0 := 0) (k := 6) (ci := 11) X IW_P iw_X11 rfl qf_X11_X11_orders (by decide) dX11_append_1 rfl rfl ?_
  obtain ⟨o1, e2, h⟩ := bnd_p h
  refine z_rdV (rest := []) (q0 := 1) (ci := 4) X IW_P k_X3_isFull (c_X3_isFull l D g q_orders q_orders_signs q_orders_kinds q_orders_numbers f_orders_size f_orders_count f_orders_place f_orders_errorPlace o1 e2) ql_X11_X3_isFull dX11_append_4 [1] rfl rfl rfl rfl rfl rfl ⟨Nat.le_of_ble_eq_true rfl, Nat.le_of_ble_eq_true rfl, rfl, rfl, Nat.le_of_ble_eq_true rfl, Nat.le_of_ble_eq_true rfl⟩ (Nat.le_of_ble_eq_true rfl) ?_
  refine z_if_ne X 14 dX11_append_7 (by decide) h (fun _ h => ?_) (fun _ h => ?_)
  · refine z_iconst X (1 : Int32) dX11_append_10 (by decide) ?_
    refine z_goto X 15 dX11_append_11 (by decide) ?_
    refine z_widen (k := 0) (n := 0) (Nat.le_of_ble_eq_true rfl) (Nat.le_of_ble_eq_true rfl) ?_
    exact H15 (1 : Int32) f_orders_size a_orders_signs h
  · refine z_iconst X (0 : Int32) dX11_append_14 (by decide) ?_
    refine z_widen (k := 0) (n := 0) (Nat.le_of_ble_eq_true rfl) (Nat.le_of_ble_eq_true rfl) ?_
    exact H15 (0 : Int32) f_orders_size a_orders_signs h

def J_X3_readForm_57 (p1 : Nat) (f_size : Int32) (f_count : Int32) (a_signs : Nat → Int32) (r4 : Int32 → Int32 → (Int32) → (Nat → Int32) → Option (Nat × Int32 × Int32 × (Nat → Int32))) (t0 : Int32) (x2 : Int32) (x3 : Int32) (f_place : Int32) (a_numbers : Nat → Int32) : Option (Nat × Int32 × Int32 × (Nat → Int32)) :=
  bnd (F_X3_readNumber t0 f_size a_signs f_place) (fun o7 => brn (o7.1 = ((-1) : Int32)) (some (0, (0 : Int32), o7.2, a_numbers)) (bnd (F_X7_put 180 (((3 : Int32) * f_count) + x2) o7.1 a_numbers) (fun o9 => r4 (x2 + 1) (x3 + 1) o7.2 o9)))

def J_X3_readForm_44 (p1 : Nat) (f_size : Int32) (f_count : Int32) (a_signs : Nat → Int32) (r4 : Int32 → Int32 → (Int32) → (Nat → Int32) → Option (Nat × Int32 × Int32 × (Nat → Int32))) (x2 : Int32) (x3 : Int32) (x4 : Int32) (f_place : Int32) (a_numbers : Nat → Int32) : Option (Nat × Int32 × Int32 × (Nat → Int32)) :=
  brn (x4 = (50 : Int32)) (J_X3_readForm_57 p1 f_size f_count a_signs (r4) (1 : Int32) x2 x3 f_place a_numbers) (J_X3_readForm_57 p1 f_size f_count a_signs (r4) (0 : Int32) x2 x3 f_place a_numbers)

def L_X3_readForm_4 (p1 : Nat) (f_size : Int32) (f_count : Int32) (a_signs : Nat → Int32) : Nat → Int32 → Int32 → (Int32) → (Nat → Int32) → Option (Nat × Int32 × Int32 × (Nat → Int32))
  | 0, _, _, _, _ => none
  | _n + 1, x2, x3, f_place, a_numbers =>
    grd (p1 < 12) (bnd (F_J0_length_8abf5 p1) (fun o1 => brn (o1 ≤ x3) (some (0, (1 : Int32), f_place, a_numbers)) (grd (p1 < 12) (bnd (F_J0_charAt_5068e p1 x3) (fun o4 => brn (o4 = (49 : Int32)) (J_X3_readForm_44 p1 f_size f_count a_signs (L_X3_readForm_4 p1 f_size f_count a_signs _n) x2 x3 o4 f_place a_numbers) (brn (o4 = (50 : Int32)) (J_X3_readForm_44 p1 f_size f_count a_signs (L_X3_readForm_4 p1 f_size f_count a_signs _n) x2 x3 o4 f_place a_numbers) (bnd (F_X3_readSign o4 f_size a_signs f_place) (fun o11 => brn (o11.1 = 0) (some (0, (0 : Int32), o11.2, a_numbers)) (L_X3_readForm_4 p1 f_size f_count a_signs _n x2 (x3 + 1) o11.2 a_numbers)))))))))

def F_X3_readForm (p1 : Nat) (f_size : Int32) (f_count : Int32) (a_signs : Nat → Int32) (f_place : Int32) (a_numbers : Nat → Int32) : Option (Nat × Int32 × Int32 × (Nat → Int32)) :=
  L_X3_readForm_4 p1 f_size f_count a_signs 100 (0 : Int32) (0 : Int32) f_place a_numbers
theorem dX3_readForm_0 : decode cX3_readForm 0 = .ok (.iconst 0, 1) := by decide +kernel
theorem dX3_readForm_1 : decode cX3_readForm 1 = .ok (.istore_n 2, 1) := by decide +kernel
theorem dX3_readForm_2 : decode cX3_readForm 2 = .ok (.iconst 0, 1) := by decide +kernel
theorem dX3_readForm_3 : decode cX3_readForm 3 = .ok (.istore_n 3, 1) := by decide +kernel
theorem dX3_readForm_4 : decode cX3_readForm 4 = .ok (.iload_n 3, 1) := by decide +kernel
theorem dX3_readForm_5 : decode cX3_readForm 5 = .ok (.aload_n 1, 1) := by decide +kernel
theorem dX3_readForm_6 : decode cX3_readForm 6 = .ok (.invokevirtual 82, 3) := by decide +kernel
theorem dX3_readForm_9 : decode cX3_readForm 9 = .ok (.if_icmp .ge 87, 3) := by decide +kernel
theorem dX3_readForm_12 : decode cX3_readForm 12 = .ok (.aload_n 1, 1) := by decide +kernel
theorem dX3_readForm_13 : decode cX3_readForm 13 = .ok (.iload_n 3, 1) := by decide +kernel
theorem dX3_readForm_14 : decode cX3_readForm 14 = .ok (.invokevirtual 87, 3) := by decide +kernel
theorem dX3_readForm_17 : decode cX3_readForm 17 = .ok (.istore 4, 2) := by decide +kernel
theorem dX3_readForm_19 : decode cX3_readForm 19 = .ok (.iload 4, 2) := by decide +kernel
theorem dX3_readForm_21 : decode cX3_readForm 21 = .ok (.bipush 49, 2) := by decide +kernel
theorem dX3_readForm_23 : decode cX3_readForm 23 = .ok (.if_icmp .eq 21, 3) := by decide +kernel
theorem dX3_readForm_26 : decode cX3_readForm 26 = .ok (.iload 4, 2) := by decide +kernel
theorem dX3_readForm_28 : decode cX3_readForm 28 = .ok (.bipush 50, 2) := by decide +kernel
theorem dX3_readForm_30 : decode cX3_readForm 30 = .ok (.if_icmp .eq 14, 3) := by decide +kernel
theorem dX3_readForm_33 : decode cX3_readForm 33 = .ok (.aload_n 0, 1) := by decide +kernel
theorem dX3_readForm_34 : decode cX3_readForm 34 = .ok (.iload 4, 2) := by decide +kernel
theorem dX3_readForm_36 : decode cX3_readForm 36 = .ok (.invokevirtual 45, 3) := by decide +kernel
theorem dX3_readForm_39 : decode cX3_readForm 39 = .ok (.ifCond .ne 51, 3) := by decide +kernel
theorem dX3_readForm_42 : decode cX3_readForm 42 = .ok (.iconst 0, 1) := by decide +kernel
theorem dX3_readForm_43 : decode cX3_readForm 43 = .ok (.ireturn, 1) := by decide +kernel
theorem dX3_readForm_44 : decode cX3_readForm 44 = .ok (.aload_n 0, 1) := by decide +kernel
theorem dX3_readForm_45 : decode cX3_readForm 45 = .ok (.iload 4, 2) := by decide +kernel
theorem dX3_readForm_47 : decode cX3_readForm 47 = .ok (.bipush 50, 2) := by decide +kernel
theorem dX3_readForm_49 : decode cX3_readForm 49 = .ok (.if_icmp .ne 7, 3) := by decide +kernel
theorem dX3_readForm_52 : decode cX3_readForm 52 = .ok (.iconst 1, 1) := by decide +kernel
theorem dX3_readForm_53 : decode cX3_readForm 53 = .ok (.goto 4, 3) := by decide +kernel
theorem dX3_readForm_56 : decode cX3_readForm 56 = .ok (.iconst 0, 1) := by decide +kernel
theorem dX3_readForm_57 : decode cX3_readForm 57 = .ok (.invokevirtual 91, 3) := by decide +kernel
theorem dX3_readForm_60 : decode cX3_readForm 60 = .ok (.istore 5, 2) := by decide +kernel
theorem dX3_readForm_62 : decode cX3_readForm 62 = .ok (.iload 5, 2) := by decide +kernel
theorem dX3_readForm_64 : decode cX3_readForm 64 = .ok (.iconst (-1), 1) := by decide +kernel
theorem dX3_readForm_65 : decode cX3_readForm 65 = .ok (.if_icmp .ne 5, 3) := by decide +kernel
theorem dX3_readForm_68 : decode cX3_readForm 68 = .ok (.iconst 0, 1) := by decide +kernel
theorem dX3_readForm_69 : decode cX3_readForm 69 = .ok (.ireturn, 1) := by decide +kernel
theorem dX3_readForm_70 : decode cX3_readForm 70 = .ok (.aload_n 0, 1) := by decide +kernel
theorem dX3_readForm_71 : decode cX3_readForm 71 = .ok (.getfield 19, 3) := by decide +kernel
theorem dX3_readForm_74 : decode cX3_readForm 74 = .ok (.iconst 3, 1) := by decide +kernel
theorem dX3_readForm_75 : decode cX3_readForm 75 = .ok (.aload_n 0, 1) := by decide +kernel
theorem dX3_readForm_76 : decode cX3_readForm 76 = .ok (.getfield 26, 3) := by decide +kernel
theorem dX3_readForm_79 : decode cX3_readForm 79 = .ok (.imul, 1) := by decide +kernel
theorem dX3_readForm_80 : decode cX3_readForm 80 = .ok (.iload_n 2, 1) := by decide +kernel
theorem dX3_readForm_81 : decode cX3_readForm 81 = .ok (.iadd, 1) := by decide +kernel
theorem dX3_readForm_82 : decode cX3_readForm 82 = .ok (.iload 5, 2) := by decide +kernel
theorem dX3_readForm_84 : decode cX3_readForm 84 = .ok (.invokestatic 57, 3) := by decide +kernel
theorem dX3_readForm_87 : decode cX3_readForm 87 = .ok (.iinc 2 1, 3) := by decide +kernel
theorem dX3_readForm_90 : decode cX3_readForm 90 = .ok (.iinc 3 1, 3) := by decide +kernel
theorem dX3_readForm_93 : decode cX3_readForm 93 = .ok (.goto (-89), 3) := by decide +kernel
theorem dX3_readForm_96 : decode cX3_readForm 96 = .ok (.iconst 1, 1) := by decide +kernel
theorem dX3_readForm_97 : decode cX3_readForm 97 = .ok (.ireturn, 1) := by decide +kernel
theorem k_X3_readForm : cardV yX3_readForm (Cond.code yX3_readForm cX3_readForm 6 (some .boolean)) 1 := ⟨⟨qi_X3_readForm, qv_X3_readForm⟩, qc_X3_readForm, qn_X3, by decide +kernel, by decide +kernel, by decide +kernel⟩
set_option maxHeartbeats 4000000 in
set_option maxRecDepth 100000 in
theorem c_X3_readForm (l : Launch) (hfl : l.stackTraces = false) (ak av : Nat → Nat) (aS : Nat) (D : va_G) (g : Nat → ClassId) (q_this q_signs q_kinds q_numbers : Nat) (p1 : Nat) (f_size : Int32) (f_count : Int32) (f_place : Int32) (f_errorPlace : Int32) (a_signs : Nat → Int32) (a_numbers : Nat → Int32) (o : Nat × Int32 × Int32 × (Nat → Int32)) (h : F_X3_readForm p1 f_size f_count a_signs f_place a_numbers = some o) : MX l yX3_readForm (Cond.code yX3_readForm cX3_readForm 6 (some .boolean)) { frames := 4, cells := 0, slots := 0, locals := 85 } ak av aS D g [.ref q_this, .ref (ak p1)] [(q_this, .inr (4, [.ref q_signs, .ref q_kinds, .ref q_numbers, .int f_size, .int f_count, .int f_place, .int f_errorPlace])), (q_signs, .inl (g 1, 60, .inl a_signs)), (q_numbers, .inl (g 0, 180, .inl a_numbers))] o.1 (some (.int o.2.1)) [(q_this, .inr (4, [.ref q_signs, .ref q_kinds, .ref q_numbers, .int f_size, .int f_count, .int o.2.2.1, .int f_errorPlace])), (q_signs, .inl (g 1, 60, .inl a_signs)), (q_numbers, .inl (g 0, 180, .inl o.2.2.2))] 0 0 := by
  refine z_ex_start (by decide) (Nat.le_of_ble_eq_true rfl) ?_
  intro p e s m args below meth c Q A X hr hE hA hno hQ
  refine z_lv (lv' := [(0, .ref q_this), (1, .ref (ak p1))]) rfl ?_
  have H4 : ∀ (n : Nat) (x2 : Int32) (x3 : Int32) (f_place : Int32) (a_numbers : Nat → Int32), L_X3_readForm_4 p1 f_size f_count a_signs  n x2 x3 f_place a_numbers = some o → Z p l e { frames := 4, cells := 0, slots := 0, locals := 85 } s m args below meth c Q 6 0 0 (IW D A s [(q_this, .inr (4, [.ref q_signs, .ref q_kinds, .ref q_numbers, .int f_size, .int f_count, .int f_place, .int f_errorPlace])), (q_signs, .inl (g 1, 60, .inl a_signs)), (q_numbers, .inl (g 0, 180, .inl a_numbers))]) 4 [(0, .ref q_this), (1, .ref (ak p1)), (2, .int x2), (3, .int x3)] [] := by
    intro n
    induction n with
    | zero => intro x2 x3 f_place a_numbers h; cases h
    | succ n4 ih4 =>
      intro x2 x3 f_place a_numbers h
      have H57 : ∀ (t0 : Int32) (x2 : Int32) (x3 : Int32) (f_place : Int32) (a_numbers : Nat → Int32), J_X3_readForm_57 p1 f_size f_count a_signs (L_X3_readForm_4 p1 f_size f_count a_signs n4) t0 x2 x3 f_place a_numbers = some o → Z p l e { frames := 4, cells := 0, slots := 0, locals := 85 } s m args below meth c Q 6 0 0 (IW D A s [(q_this, .inr (4, [.ref q_signs, .ref q_kinds, .ref q_numbers, .int f_size, .int f_count, .int f_place, .int f_errorPlace])), (q_signs, .inl (g 1, 60, .inl a_signs)), (q_numbers, .inl (g 0, 180, .inl a_numbers))]) 57 [(0, .ref q_this), (1, .ref (ak p1)), (2, .int x2), (3, .int x3)] [.int t0, .ref q_this] := by
        intro t0 x2 x3 f_place a_numbers h
        obtain ⟨o7, e8, h⟩ := bnd_p h
        refine z_wrV (rest := []) (q0 := 0) (ci := 4) (ws' := [(q_this, .inr (4, [.ref q_signs, .ref q_kinds, .ref q_numbers, .int f_size, .int f_count, .int o7.2, .int f_errorPlace])), (q_signs, .inl (g 1, 60, .inl a_signs)), (q_numbers, .inl (g 0, 180, .inl a_numbers))]) (wr := [(q_numbers, .inl (g 0, 180, .inl a_numbers))]) (as := [q_this, q_signs, q_numbers]) X k_X3_readNumber (c_X3_readNumber l D g q_this q_signs q_kinds q_numbers t0 f_size f_count f_place f_errorPlace a_signs o7 e8) ql_X3_X3_readNumber dX3_readForm_57 [0, 1] [2] ⟨rfl, rfl, rfl, rfl, rfl, rfl, rfl, rfl⟩ rfl rfl rfl rfl rfl ⟨Nat.le_of_ble_eq_true rfl, Nat.le_of_ble_eq_true rfl, rfl, rfl, Nat.le_of_ble_eq_true rfl, Nat.le_of_ble_eq_true rfl⟩ (Nat.le_of_ble_eq_true rfl) ?_
        refine z_istore X [(5, .int o7.1), (0, .ref q_this), (1, .ref (ak p1)), (2, .int x2), (3, .int x3)] dX3_readForm_60 (by decide) rfl ?_
        refine z_iload X 0 dX3_readForm_62 rfl ?_
        refine z_iconst X ((-1) : Int32) dX3_readForm_64 (by decide) ?_
        refine z_icmp_ne X 70 dX3_readForm_65 (by decide) h (fun _ h => ?_) (fun _ h => ?_)
        · refine z_iconst X (0 : Int32) dX3_readForm_68 (by decide) ?_
          cases h
          exact z_zretX X hQ (Nat.le_of_ble_eq_true rfl) (Nat.le_of_ble_eq_true rfl) hr dX3_readForm_69 rfl
        · refine z_aload_n X 1 dX3_readForm_70 rfl rfl ?_
          refine z_get (q0 := 0) (k := 2) (ci := 4) X IW_P iw_X3 rfl qf_X3_X3_numbers (by decide) dX3_readForm_71 rfl rfl ?_
          refine z_iconst X (3 : Int32) dX3_readForm_74 (by decide) ?_
          refine z_aload_n X 1 dX3_readForm_75 rfl rfl ?_
          refine z_get (q0 := 0) (k := 4) (ci := 4) X IW_P iw_X3 rfl qf_X3_X3_count (by decide) dX3_readForm_76 rfl rfl ?_
          refine z_imul X dX3_readForm_79 ?_
          refine z_iload_n X 3 dX3_readForm_80 rfl rfl ?_
          refine z_iadd X dX3_readForm_81 ?_
          refine z_iload X 0 dX3_readForm_82 rfl ?_
          obtain ⟨o9, e10, h⟩ := bnd_p h
          refine z_wrS (rest := []) (ws' := [(q_this, .inr (4, [.ref q_signs, .ref q_kinds, .ref q_numbers, .int f_size, .int f_count, .int o7.2, .int f_errorPlace])), (q_signs, .inl (g 1, 60, .inl a_signs)), (q_numbers, .inl (g 0, 180, .inl o9))]) (wr := [(q_this, .inr (4, [.ref q_signs, .ref q_kinds, .ref q_numbers, .int f_size, .int f_count, .int o7.2, .int f_errorPlace])), (q_signs, .inl (g 1, 60, .inl a_signs))]) (as := [q_this, q_signs, q_numbers]) X k_X7_put (c_X7_put l D g q_numbers 180 (((3 : Int32) * f_count) + x2) o7.1 a_numbers o9 e10) ql_X3_X7_put dX3_readForm_84 [2] [0, 1] ⟨rfl, rfl, rfl, rfl, rfl, rfl, rfl, rfl⟩ rfl rfl ⟨Nat.le_of_ble_eq_true rfl, Nat.le_of_ble_eq_true rfl, rfl, rfl, Nat.le_of_ble_eq_true rfl, Nat.le_of_ble_eq_true rfl⟩ (Nat.le_of_ble_eq_true rfl) ?_
          refine z_iinc X 3 [(2, .int (x2 + 1)), (5, .int o7.1), (0, .ref q_this), (1, .ref (ak p1)), (3, .int x3)] dX3_readForm_87 rfl rfl (by decide) rfl ?_
          refine z_iinc X 4 [(3, .int (x3 + 1)), (2, .int (x2 + 1)), (5, .int o7.1), (0, .ref q_this), (1, .ref (ak p1))] dX3_readForm_90 rfl rfl (by decide) rfl ?_
          refine z_goto X 4 dX3_readForm_93 (by decide) ?_
          refine z_sub (lv' := [(0, .ref q_this), (1, .ref (ak p1)), (2, .int (x2 + 1)), (3, .int (x3 + 1))]) [3, 4, 1, 0] rfl ?_
          exact ih4 (x2 + 1) (x3 + 1) o7.2 o9 h
      have H44 : ∀ (x2 : Int32) (x3 : Int32) (x4 : Int32) (f_place : Int32) (a_numbers : Nat → Int32), J_X3_readForm_44 p1 f_size f_count a_signs (L_X3_readForm_4 p1 f_size f_count a_signs n4) x2 x3 x4 f_place a_numbers = some o → Z p l e { frames := 4, cells := 0, slots := 0, locals := 85 } s m args below meth c Q 6 0 0 (IW D A s [(q_this, .inr (4, [.ref q_signs, .ref q_kinds, .ref q_numbers, .int f_size, .int f_count, .int f_place, .int f_errorPlace])), (q_signs, .inl (g 1, 60, .inl a_signs)), (q_numbers, .inl (g 0, 180, .inl a_numbers))]) 44 [(0, .ref q_this), (1, .ref (ak p1)), (2, .int x2), (3, .int x3), (4, .int x4)] [] := by
        intro x2 x3 x4 f_place a_numbers h
        refine z_aload_n X 0 dX3_readForm_44 rfl rfl ?_
        refine z_iload X 4 dX3_readForm_45 rfl ?_
        refine z_bipush X (50 : Int32) dX3_readForm_47 (by decide) ?_
        refine z_icmp_ne X 56 dX3_readForm_49 (by decide) h (fun _ h => ?_) (fun _ h => ?_)
        · refine z_iconst X (1 : Int32) dX3_readForm_52 (by decide) ?_
          refine z_goto X 57 dX3_readForm_53 (by decide) ?_
          refine z_widen (k := 0) (n := 0) (Nat.le_of_ble_eq_true rfl) (Nat.le_of_ble_eq_true rfl) ?_
          refine z_sub (lv' := [(0, .ref q_this), (1, .ref (ak p1)), (2, .int x2), (3, .int x3)]) [0, 1, 2, 3] rfl ?_
          exact H57 (1 : Int32) x2 x3 f_place a_numbers h
        · refine z_iconst X (0 : Int32) dX3_readForm_56 (by decide) ?_
          refine z_widen (k := 0) (n := 0) (Nat.le_of_ble_eq_true rfl) (Nat.le_of_ble_eq_true rfl) ?_
          refine z_sub (lv' := [(0, .ref q_this), (1, .ref (ak p1)), (2, .int x2), (3, .int x3)]) [0, 1, 2, 3] rfl ?_
          exact H57 (0 : Int32) x2 x3 f_place a_numbers h
      refine z_iload_n X 3 dX3_readForm_4 rfl rfl ?_
      refine z_aload_n X 1 dX3_readForm_5 rfl rfl ?_
      obtain ⟨e3, h⟩ := grd_p h
      obtain ⟨o1, e2, h⟩ := bnd_p h
      refine z_edV (rest := [.int x3]) X IW_S hE k_J0_length_8abf5 (c_J0_length_8abf5 l ak av aS D g p1 o1 e2) ql_X3_J0_length_8abf5 dX3_readForm_6 e3 rfl rfl rfl ⟨Nat.le_of_ble_eq_true rfl, Nat.le_of_ble_eq_true rfl, rfl, rfl, Nat.le_of_ble_eq_true rfl, Nat.le_of_ble_eq_true rfl⟩ (Nat.le_of_ble_eq_true rfl) ?_
      refine z_icmp_ge X 96 dX3_readForm_9 (by decide) h (fun _ h => ?_) (fun _ h => ?_)
      · refine z_iconst X (1 : Int32) dX3_readForm_96 (by decide) ?_
        cases h
        exact z_zretX X hQ (Nat.le_of_ble_eq_true rfl) (Nat.le_of_ble_eq_true rfl) hr dX3_readForm_97 rfl
      · refine z_aload_n X 1 dX3_readForm_12 rfl rfl ?_
        refine z_iload_n X 3 dX3_readForm_13 rfl rfl ?_
        obtain ⟨e6, h⟩ := grd_p h
        obtain ⟨o4, e5, h⟩ := bnd_p h
        refine z_edV (rest := []) X IW_S hE k_J0_charAt_5068e (c_J0_charAt_5068e l ak av aS D g p1 x3 o4 e5) ql_X3_J0_charAt_5068e dX3_readForm_14 e6 rfl rfl rfl ⟨Nat.le_of_ble_eq_true rfl, Nat.le_of_ble_eq_true rfl, rfl, rfl, Nat.le_of_ble_eq_true rfl, Nat.le_of_ble_eq_true rfl⟩ (Nat.le_of_ble_eq_true rfl) ?_
        refine z_istore X [(4, .int o4), (0, .ref q_this), (1, .ref (ak p1)), (2, .int x2), (3, .int x3)] dX3_readForm_17 (by decide) rfl ?_
        refine z_iload X 0 dX3_readForm_19 rfl ?_
        refine z_bipush X (49 : Int32) dX3_readForm_21 (by decide) ?_
        refine z_icmp_eq X 44 dX3_readForm_23 (by decide) h (fun _ h => ?_) (fun _ h => ?_)
        · refine z_widen (k := 0) (n := 0) (Nat.le_of_ble_eq_true rfl) (Nat.le_of_ble_eq_true rfl) ?_
          refine z_sub (lv' := [(0, .ref q_this), (1, .ref (ak p1)), (2, .int x2), (3, .int x3), (4, .int o4)]) [1, 2, 3, 4, 0] rfl ?_
          exact H44 x2 x3 o4 f_place a_numbers h
        · refine z_iload X 0 dX3_readForm_26 rfl ?_
          refine z_bipush X (50 : Int32) dX3_readForm_28 (by decide) ?_
          refine z_icmp_eq X 44 dX3_readForm_30 (by decide) h (fun _ h => ?_) (fun _ h => ?_)
          · refine z_widen (k := 0) (n := 0) (Nat.le_of_ble_eq_true rfl) (Nat.le_of_ble_eq_true rfl) ?_
            refine z_sub (lv' := [(0, .ref q_this), (1, .ref (ak p1)), (2, .int x2), (3, .int x3), (4, .int o4)]) [1, 2, 3, 4, 0] rfl ?_
            exact H44 x2 x3 o4 f_place a_numbers h
          · refine z_aload_n X 1 dX3_readForm_33 rfl rfl ?_
            refine z_iload X 0 dX3_readForm_34 rfl ?_
            obtain ⟨o11, e12, h⟩ := bnd_p h
            refine z_wrV (rest := []) (q0 := 0) (ci := 4) (ws' := [(q_this, .inr (4, [.ref q_signs, .ref q_kinds, .ref q_numbers, .int f_size, .int f_count, .int o11.2, .int f_errorPlace])), (q_signs, .inl (g 1, 60, .inl a_signs)), (q_numbers, .inl (g 0, 180, .inl a_numbers))]) (wr := [(q_numbers, .inl (g 0, 180, .inl a_numbers))]) (as := [q_this, q_signs, q_numbers]) X k_X3_readSign (c_X3_readSign l D g q_this q_signs q_kinds q_numbers o4 f_size f_count f_place f_errorPlace a_signs o11 e12) ql_X3_X3_readSign dX3_readForm_36 [0, 1] [2] ⟨rfl, rfl, rfl, rfl, rfl, rfl, rfl, rfl⟩ rfl rfl rfl rfl rfl ⟨Nat.le_of_ble_eq_true rfl, Nat.le_of_ble_eq_true rfl, rfl, rfl, Nat.le_of_ble_eq_true rfl, Nat.le_of_ble_eq_true rfl⟩ (Nat.le_of_ble_eq_true rfl) ?_
            refine z_if_ne X 90 dX3_readForm_39 (by decide) h (fun _ h => ?_) (fun _ h => ?_)
            · refine z_iconst X (0 : Int32) dX3_readForm_42 (by decide) ?_
              cases h
              exact z_zretX X hQ (Nat.le_of_ble_eq_true rfl) (Nat.le_of_ble_eq_true rfl) hr dX3_readForm_43 rfl
            · refine z_iinc X 4 [(3, .int (x3 + 1)), (4, .int o4), (0, .ref q_this), (1, .ref (ak p1)), (2, .int x2)] dX3_readForm_90 rfl rfl (by decide) rfl ?_
              refine z_goto X 4 dX3_readForm_93 (by decide) ?_
              refine z_sub (lv' := [(0, .ref q_this), (1, .ref (ak p1)), (2, .int x2), (3, .int (x3 + 1))]) [2, 3, 4, 0] rfl ?_
              exact ih4 x2 (x3 + 1) o11.2 a_numbers h
  refine z_iconst X (0 : Int32) dX3_readForm_0 (by decide) ?_
  refine z_istore_n X [(2, .int (0 : Int32)), (0, .ref q_this), (1, .ref (ak p1))] dX3_readForm_1 rfl (by decide) rfl ?_
  refine z_iconst X (0 : Int32) dX3_readForm_2 (by decide) ?_
  refine z_istore_n X [(3, .int (0 : Int32)), (2, .int (0 : Int32)), (0, .ref q_this), (1, .ref (ak p1))] dX3_readForm_3 rfl (by decide) rfl ?_
  refine z_widen (k := 0) (n := 0) (Nat.le_of_ble_eq_true rfl) (Nat.le_of_ble_eq_true rfl) ?_
  refine z_sub (lv' := [(0, .ref q_this), (1, .ref (ak p1)), (2, .int (0 : Int32)), (3, .int (0 : Int32))]) [2, 3, 1, 0] rfl ?_
  exact H4 100 (0 : Int32) (0 : Int32) f_place a_numbers h

def F_X3_readOrder (f_size : Int32) (a_signs : Nat → Int32) (f_count : Int32) (f_place : Int32) (a_kinds : Nat → Int32) (a_numbers : Nat → Int32) : Option (Nat × Int32 × Int32 × Int32 × (Nat → Int32) × (Nat → Int32)) :=
  bnd (F_X3_signHere f_size f_place a_signs) (fun o1 => bnd (F_X3_kindOf o1) (fun o3 => brn (o3 = ((-1) : Int32)) (some (0, (0 : Int32), f_count, f_place, a_kinds, a_numbers)) (bnd (F_X7_put 60 f_count o3 a_kinds) (fun o5 => bnd (F_X3_formOf o3) (fun o7 => bnd (F_X3_readForm o7 f_size f_count a_signs (f_place + (1 : Int32)) a_numbers) (fun o9 => brn (o9.1 = 0) (brn (o9.2.1 = 0) (some (0, (0 : Int32), f_count, o9.2.2.1, o5, o9.2.2.2)) (some (0, (1 : Int32), (f_count + (1 : Int32)), o9.2.2.1, o5, o9.2.2.2))) (some (o9.1, (0 : Int32), f_count, o9.2.2.1, o5, o9.2.2.2))))))))
theorem dX3_readOrder_0 : decode cX3_readOrder 0 = .ok (.aload_n 0, 1) := by decide +kernel
theorem dX3_readOrder_1 : decode cX3_readOrder 1 = .ok (.invokevirtual 49, 3) := by decide +kernel
theorem dX3_readOrder_4 : decode cX3_readOrder 4 = .ok (.invokestatic 53, 3) := by decide +kernel
theorem dX3_readOrder_7 : decode cX3_readOrder 7 = .ok (.istore_n 1, 1) := by decide +kernel
theorem dX3_readOrder_8 : decode cX3_readOrder 8 = .ok (.iload_n 1, 1) := by decide +kernel
theorem dX3_readOrder_9 : decode cX3_readOrder 9 = .ok (.iconst (-1), 1) := by decide +kernel
theorem dX3_readOrder_10 : decode cX3_readOrder 10 = .ok (.if_icmp .ne 5, 3) := by decide +kernel
theorem dX3_readOrder_13 : decode cX3_readOrder 13 = .ok (.iconst 0, 1) := by decide +kernel
theorem dX3_readOrder_14 : decode cX3_readOrder 14 = .ok (.ireturn, 1) := by decide +kernel
theorem dX3_readOrder_15 : decode cX3_readOrder 15 = .ok (.aload_n 0, 1) := by decide +kernel
theorem dX3_readOrder_16 : decode cX3_readOrder 16 = .ok (.dup, 1) := by decide +kernel
theorem dX3_readOrder_17 : decode cX3_readOrder 17 = .ok (.getfield 29, 3) := by decide +kernel
theorem dX3_readOrder_20 : decode cX3_readOrder 20 = .ok (.iconst 1, 1) := by decide +kernel
theorem dX3_readOrder_21 : decode cX3_readOrder 21 = .ok (.iadd, 1) := by decide +kernel
theorem dX3_readOrder_22 : decode cX3_readOrder 22 = .ok (.putfield 29, 3) := by decide +kernel
theorem dX3_readOrder_25 : decode cX3_readOrder 25 = .ok (.aload_n 0, 1) := by decide +kernel
theorem dX3_readOrder_26 : decode cX3_readOrder 26 = .ok (.getfield 15, 3) := by decide +kernel
theorem dX3_readOrder_29 : decode cX3_readOrder 29 = .ok (.aload_n 0, 1) := by decide +kernel
theorem dX3_readOrder_30 : decode cX3_readOrder 30 = .ok (.getfield 26, 3) := by decide +kernel
theorem dX3_readOrder_33 : decode cX3_readOrder 33 = .ok (.iload_n 1, 1) := by decide +kernel
theorem dX3_readOrder_34 : decode cX3_readOrder 34 = .ok (.invokestatic 57, 3) := by decide +kernel
theorem dX3_readOrder_37 : decode cX3_readOrder 37 = .ok (.aload_n 0, 1) := by decide +kernel
theorem dX3_readOrder_38 : decode cX3_readOrder 38 = .ok (.iload_n 1, 1) := by decide +kernel
theorem dX3_readOrder_39 : decode cX3_readOrder 39 = .ok (.invokestatic 61, 3) := by decide +kernel
theorem dX3_readOrder_42 : decode cX3_readOrder 42 = .ok (.invokevirtual 65, 3) := by decide +kernel
theorem dX3_readOrder_45 : decode cX3_readOrder 45 = .ok (.ifCond .ne 5, 3) := by decide +kernel
theorem dX3_readOrder_48 : decode cX3_readOrder 48 = .ok (.iconst 0, 1) := by decide +kernel
theorem dX3_readOrder_49 : decode cX3_readOrder 49 = .ok (.ireturn, 1) := by decide +kernel
theorem dX3_readOrder_50 : decode cX3_readOrder 50 = .ok (.aload_n 0, 1) := by decide +kernel
theorem dX3_readOrder_51 : decode cX3_readOrder 51 = .ok (.dup, 1) := by decide +kernel
theorem dX3_readOrder_52 : decode cX3_readOrder 52 = .ok (.getfield 26, 3) := by decide +kernel
theorem dX3_readOrder_55 : decode cX3_readOrder 55 = .ok (.iconst 1, 1) := by decide +kernel
theorem dX3_readOrder_56 : decode cX3_readOrder 56 = .ok (.iadd, 1) := by decide +kernel
theorem dX3_readOrder_57 : decode cX3_readOrder 57 = .ok (.putfield 26, 3) := by decide +kernel
theorem dX3_readOrder_60 : decode cX3_readOrder 60 = .ok (.iconst 1, 1) := by decide +kernel
theorem dX3_readOrder_61 : decode cX3_readOrder 61 = .ok (.ireturn, 1) := by decide +kernel
theorem k_X3_readOrder : cardV yX3_readOrder (Cond.code yX3_readOrder cX3_readOrder 2 (some .boolean)) 0 := ⟨⟨qi_X3_readOrder, qv_X3_readOrder⟩, qc_X3_readOrder, qn_X3, by decide +kernel, by decide +kernel, by decide +kernel⟩
set_option maxHeartbeats 4000000 in
set_option maxRecDepth 100000 in
theorem c_X3_readOrder (l : Launch) (hfl : l.stackTraces = false) (ak av : Nat → Nat) (aS : Nat) (D : va_G) (g : Nat → ClassId) (q_this q_signs q_kinds q_numbers : Nat) (f_size : Int32) (f_count : Int32) (f_place : Int32) (f_errorPlace : Int32) (a_signs : Nat → Int32) (a_kinds : Nat → Int32) (a_numbers : Nat → Int32) (o : Nat × Int32 × Int32 × Int32 × (Nat → Int32) × (Nat → Int32)) (h : F_X3_readOrder f_size a_signs f_count f_place a_kinds a_numbers = some o) : MX l yX3_readOrder (Cond.code yX3_readOrder cX3_readOrder 2 (some .boolean)) { frames := 5, cells := 0, slots := 0, locals := 110 } ak av aS D g [.ref q_this] [(q_this, .inr (4, [.ref q_signs, .ref q_kinds, .ref q_numbers, .int f_size, .int f_count, .int f_place, .int f_errorPlace])), (q_signs, .inl (g 1, 60, .inl a_signs)), (q_kinds, .inl (g 0, 60, .inl a_kinds)), (q_numbers, .inl (g 0, 180, .inl a_numbers))] o.1 (some (.int o.2.1)) [(q_this, .inr (4, [.ref q_signs, .ref q_kinds, .ref q_numbers, .int f_size, .int o.2.2.1, .int o.2.2.2.1, .int f_errorPlace])), (q_signs, .inl (g 1, 60, .inl a_signs)), (q_kinds, .inl (g 0, 60, .inl o.2.2.2.2.1)), (q_numbers, .inl (g 0, 180, .inl o.2.2.2.2.2))] 0 0 := by
  refine z_ex_start (by decide) (Nat.le_of_ble_eq_true rfl) ?_
  intro p e s m args below meth c Q A X hr hE hA hno hQ
  refine z_lv (lv' := [(0, .ref q_this)]) rfl ?_
  refine z_aload_n X 0 dX3_readOrder_0 rfl rfl ?_
  obtain ⟨o1, e2, h⟩ := bnd_p h
  refine z_rdV (rest := []) (q0 := 0) (ci := 4) X IW_P k_X3_signHere (c_X3_signHere l D g q_this q_signs q_kinds q_numbers f_size f_count f_place f_errorPlace a_signs o1 e2) ql_X3_X3_signHere dX3_readOrder_1 [0, 1] rfl rfl rfl rfl rfl rfl ⟨Nat.le_of_ble_eq_true rfl, Nat.le_of_ble_eq_true rfl, rfl, rfl, Nat.le_of_ble_eq_true rfl, Nat.le_of_ble_eq_true rfl⟩ (Nat.le_of_ble_eq_true rfl) ?_
  obtain ⟨o3, e4, h⟩ := bnd_p h
  refine z_edS (rest := []) X IW_S hE k_X3_kindOf (c_X3_kindOf l ak av aS D g o1 o3 e4) ql_X3_X3_kindOf dX3_readOrder_4 rfl rfl ⟨Nat.le_of_ble_eq_true rfl, Nat.le_of_ble_eq_true rfl, rfl, rfl, Nat.le_of_ble_eq_true rfl, Nat.le_of_ble_eq_true rfl⟩ (Nat.le_of_ble_eq_true rfl) ?_
  refine z_istore_n X [(1, .int o3), (0, .ref q_this)] dX3_readOrder_7 rfl (by decide) rfl ?_
  refine z_iload_n X 0 dX3_readOrder_8 rfl rfl ?_
  refine z_iconst X ((-1) : Int32) dX3_readOrder_9 (by decide) ?_
  refine z_icmp_ne X 15 dX3_readOrder_10 (by decide) h (fun _ h => ?_) (fun _ h => ?_)
  · refine z_iconst X (0 : Int32) dX3_readOrder_13 (by decide) ?_
    cases h
    exact z_zretX X hQ (Nat.le_of_ble_eq_true rfl) (Nat.le_of_ble_eq_true rfl) hr dX3_readOrder_14 rfl
  · refine z_aload_n X 1 dX3_readOrder_15 rfl rfl ?_
    refine z_dup X dX3_readOrder_16 rfl ?_
    refine z_get (q0 := 0) (k := 5) (ci := 4) X IW_P iw_X3 rfl qf_X3_X3_place (by decide) dX3_readOrder_17 rfl rfl ?_
    refine z_iconst X (1 : Int32) dX3_readOrder_20 (by decide) ?_
    refine z_iadd X dX3_readOrder_21 ?_
    refine z_put (q0 := 0) (k := 5) (ci := 4) (ws' := [(q_this, .inr (4, [.ref q_signs, .ref q_kinds, .ref q_numbers, .int f_size, .int f_count, .int (f_place + (1 : Int32)), .int f_errorPlace])), (q_signs, .inl (g 1, 60, .inl a_signs)), (q_kinds, .inl (g 0, 60, .inl a_kinds)), (q_numbers, .inl (g 0, 180, .inl a_numbers))]) X iw_X3 tyX3_ok nmX3 rfl qf_X3_X3_place (by decide) rfl rfl dX3_readOrder_22 rfl rfl rfl (Nat.le_of_ble_eq_true rfl) rfl ?_
    refine z_aload_n X 1 dX3_readOrder_25 rfl rfl ?_
    refine z_get (q0 := 0) (k := 1) (ci := 4) X IW_P iw_X3 rfl qf_X3_X3_kinds (by decide) dX3_readOrder_26 rfl rfl ?_
    refine z_aload_n X 1 dX3_readOrder_29 rfl rfl ?_
    refine z_get (q0 := 0) (k := 4) (ci := 4) X IW_P iw_X3 rfl qf_X3_X3_count (by decide) dX3_readOrder_30 rfl rfl ?_
    refine z_iload_n X 0 dX3_readOrder_33 rfl rfl ?_
    obtain ⟨o5, e6, h⟩ := bnd_p h
    refine z_wrS (rest := []) (ws' := [(q_this, .inr (4, [.ref q_signs, .ref q_kinds, .ref q_numbers, .int f_size, .int f_count, .int (f_place + (1 : Int32)), .int f_errorPlace])), (q_signs, .inl (g 1, 60, .inl a_signs)), (q_kinds, .inl (g 0, 60, .inl o5)), (q_numbers, .inl (g 0, 180, .inl a_numbers))]) (wr := [(q_this, .inr (4, [.ref q_signs, .ref q_kinds, .ref q_numbers, .int f_size, .int f_count, .int (f_place + (1 : Int32)), .int f_errorPlace])), (q_signs, .inl (g 1, 60, .inl a_signs)), (q_numbers, .inl (g 0, 180, .inl a_numbers))]) (as := [q_this, q_signs, q_kinds, q_numbers]) X k_X7_put (c_X7_put l D g q_kinds 60 f_count o3 a_kinds o5 e6) ql_X3_X7_put dX3_readOrder_34 [2] [0, 1, 3] ⟨rfl, rfl, rfl, rfl, rfl, rfl, rfl, rfl⟩ rfl rfl ⟨Nat.le_of_ble_eq_true rfl, Nat.le_of_ble_eq_true rfl, rfl, rfl, Nat.le_of_ble_eq_true rfl, Nat.le_of_ble_eq_true rfl⟩ (Nat.le_of_ble_eq_true rfl) ?_
    refine z_aload_n X 1 dX3_readOrder_37 rfl rfl ?_
    refine z_iload_n X 0 dX3_readOrder_38 rfl rfl ?_
    obtain ⟨o7, e8, h⟩ := bnd_p h
    refine z_edS (rest := [.ref q_this]) X IW_S hE k_X3_formOf (c_X3_formOf l ak av aS D g o3 o7 e8) ql_X3_X3_formOf dX3_readOrder_39 rfl rfl ⟨Nat.le_of_ble_eq_true rfl, Nat.le_of_ble_eq_true rfl, rfl, rfl, Nat.le_of_ble_eq_true rfl, Nat.le_of_ble_eq_true rfl⟩ (Nat.le_of_ble_eq_true rfl) ?_
    obtain ⟨o9, e10, h⟩ := bnd_p h
    have f11 : fitsW [(q_this, .inr (4, [.ref q_signs, .ref q_kinds, .ref q_numbers, .int f_size, .int f_count, .int (f_place + (1 : Int32)), .int f_errorPlace])), (q_signs, .inl (g 1, 60, .inl a_signs)), (q_kinds, .inl (g 0, 60, .inl o5)), (q_numbers, .inl (g 0, 180, .inl a_numbers))] [(q_this, .inr (4, [.ref q_signs, .ref q_kinds, .ref q_numbers, .int f_size, .int f_count, .int o9.2.2.1, .int f_errorPlace])), (q_signs, .inl (g 1, 60, .inl a_signs)), (q_kinds, .inl (g 0, 60, .inl o5)), (q_numbers, .inl (g 0, 180, .inl o9.2.2.2))] [(q_this, .inr (4, [.ref q_signs, .ref q_kinds, .ref q_numbers, .int f_size, .int f_count, .int (f_place + (1 : Int32)), .int f_errorPlace])), (q_signs, .inl (g 1, 60, .inl a_signs)), (q_numbers, .inl (g 0, 180, .inl a_numbers))] [(q_this, .inr (4, [.ref q_signs, .ref q_kinds, .ref q_numbers, .int f_size, .int f_count, .int o9.2.2.1, .int f_errorPlace])), (q_signs, .inl (g 1, 60, .inl a_signs)), (q_numbers, .inl (g 0, 180, .inl o9.2.2.2))] [(q_kinds, .inl (g 0, 60, .inl o5))] [q_this, q_signs, q_kinds, q_numbers] [0, 1, 3] [2] := ⟨rfl, rfl, rfl, rfl, rfl, rfl, rfl, rfl⟩
    refine z_exV (rest := []) (q0 := 0) (ci := 4) (ws' := [(q_this, .inr (4, [.ref q_signs, .ref q_kinds, .ref q_numbers, .int f_size, .int f_count, .int o9.2.2.1, .int f_errorPlace])), (q_signs, .inl (g 1, 60, .inl a_signs)), (q_kinds, .inl (g 0, 60, .inl o5)), (q_numbers, .inl (g 0, 180, .inl o9.2.2.2))]) X hE hA k_X3_readForm (c_X3_readForm l hfl ak av aS D g q_this q_signs q_kinds q_numbers o7 f_size f_count (f_place + (1 : Int32)) f_errorPlace a_signs a_numbers o9 e10) ql_X3_X3_readForm dX3_readOrder_42 (bkc_of f11) (bk_of f11) rfl rfl rfl rfl rfl ⟨Nat.le_of_ble_eq_true rfl, Nat.le_of_ble_eq_true rfl, rfl, rfl, Nat.le_of_ble_eq_true rfl, Nat.le_of_ble_eq_true rfl⟩ (Nat.le_of_ble_eq_true rfl) (fun x12 => ?_) (fun x12 => ?_)
    · have h := brn_t h x12
      refine z_if_ne X 50 dX3_readOrder_45 (by decide) h (fun _ h => ?_) (fun _ h => ?_)
      · refine z_iconst X (0 : Int32) dX3_readOrder_48 (by decide) ?_
        cases h
        exact z_zretX X hQ (Nat.le_of_ble_eq_true rfl) (Nat.le_of_ble_eq_true rfl) hr dX3_readOrder_49 rfl
      · refine z_aload_n X 1 dX3_readOrder_50 rfl rfl ?_
        refine z_dup X dX3_readOrder_51 rfl ?_
        refine z_get (q0 := 0) (k := 4) (ci := 4) X IW_P iw_X3 rfl qf_X3_X3_count (by decide) dX3_readOrder_52 rfl rfl ?_
        refine z_iconst X (1 : Int32) dX3_readOrder_55 (by decide) ?_
        refine z_iadd X dX3_readOrder_56 ?_
        refine z_put (q0 := 0) (k := 4) (ci := 4) (ws' := [(q_this, .inr (4, [.ref q_signs, .ref q_kinds, .ref q_numbers, .int f_size, .int (f_count + (1 : Int32)), .int o9.2.2.1, .int f_errorPlace])), (q_signs, .inl (g 1, 60, .inl a_signs)), (q_kinds, .inl (g 0, 60, .inl o5)), (q_numbers, .inl (g 0, 180, .inl o9.2.2.2))]) X iw_X3 tyX3_ok nmX3 rfl qf_X3_X3_count (by decide) rfl rfl dX3_readOrder_57 rfl rfl rfl (Nat.le_of_ble_eq_true rfl) rfl ?_
        refine z_iconst X (1 : Int32) dX3_readOrder_60 (by decide) ?_
        cases h
        exact z_zretX X hQ (Nat.le_of_ble_eq_true rfl) (Nat.le_of_ble_eq_true rfl) hr dX3_readOrder_61 rfl
    · have h := brn_f h x12
      cases h
      exact zt_out (lv := [(1, .int o3), (0, .ref q_this)]) X hno hQ x12 (Nat.le_of_ble_eq_true rfl) (Nat.le_of_ble_eq_true rfl)

def J_X3_read_79 (f_size : Int32) (a_signs : Nat → Int32) (t0 : Int32) (x1 : Int32) (f_count : Int32) (f_place : Int32) (f_errorPlace : Int32) (a_kinds : Nat → Int32) (a_numbers : Nat → Int32) : Option (Nat × Int32 × Int32 × Int32 × Int32 × (Nat → Int32) × (Nat → Int32)) :=
  grd (x1 = 0 ∨ x1 = 1) (some (0, x1, f_count, f_place, t0, a_kinds, a_numbers))

def J_X3_read_66 (f_size : Int32) (a_signs : Nat → Int32) (x1 : Int32) (f_count : Int32) (f_place : Int32) (f_errorPlace : Int32) (a_kinds : Nat → Int32) (a_numbers : Nat → Int32) : Option (Nat × Int32 × Int32 × Int32 × Int32 × (Nat → Int32) × (Nat → Int32)) :=
  brn (x1 = 0) (J_X3_read_79 f_size a_signs f_place x1 f_count f_place f_errorPlace a_kinds a_numbers) (J_X3_read_79 f_size a_signs ((-1) : Int32) x1 f_count f_place f_errorPlace a_kinds a_numbers)

def J_X3_read_59 (f_size : Int32) (a_signs : Nat → Int32) (r17 : Int32 → Int32 → (Int32) → (Int32) → (Int32) → (Nat → Int32) → (Nat → Int32) → Option (Nat × Int32 × Int32 × Int32 × Int32 × (Nat → Int32) × (Nat → Int32))) (t0 : Int32) (x2 : Int32) (f_count : Int32) (f_place : Int32) (f_errorPlace : Int32) (a_kinds : Nat → Int32) (a_numbers : Nat → Int32) : Option (Nat × Int32 × Int32 × Int32 × Int32 × (Nat → Int32) × (Nat → Int32)) :=
  r17 t0 (x2 + 1) f_count f_place f_errorPlace a_kinds a_numbers

def J_X3_read_58 (f_size : Int32) (a_signs : Nat → Int32) (r17 : Int32 → Int32 → (Int32) → (Int32) → (Int32) → (Nat → Int32) → (Nat → Int32) → Option (Nat × Int32 × Int32 × Int32 × Int32 × (Nat → Int32) × (Nat → Int32))) (x2 : Int32) (f_count : Int32) (f_place : Int32) (f_errorPlace : Int32) (a_kinds : Nat → Int32) (a_numbers : Nat → Int32) : Option (Nat × Int32 × Int32 × Int32 × Int32 × (Nat → Int32) × (Nat → Int32)) :=
  J_X3_read_59 f_size a_signs (r17) (0 : Int32) x2 f_count f_place f_errorPlace a_kinds a_numbers

def L_X3_read_17 (f_size : Int32) (a_signs : Nat → Int32) : Nat → Int32 → Int32 → (Int32) → (Int32) → (Int32) → (Nat → Int32) → (Nat → Int32) → Option (Nat × Int32 × Int32 × Int32 × Int32 × (Nat → Int32) × (Nat → Int32))
  | 0, _, _, _, _, _, _, _ => none
  | _n + 1, x1, x2, f_count, f_place, f_errorPlace, a_kinds, a_numbers =>
    brn ((60 : Int32) ≤ x2) (J_X3_read_66 f_size a_signs x1 f_count f_place f_errorPlace a_kinds a_numbers) (brn (x1 = 0) (J_X3_read_66 f_size a_signs x1 f_count f_place f_errorPlace a_kinds a_numbers) (brn (f_size ≤ f_place) (J_X3_read_66 f_size a_signs x1 f_count f_place f_errorPlace a_kinds a_numbers) (bnd (F_X3_readSign (59 : Int32) f_size a_signs f_place) (fun o6 => brn (o6.1 = 0) (J_X3_read_58 f_size a_signs (L_X3_read_17 f_size a_signs _n) x2 f_count o6.2 f_errorPlace a_kinds a_numbers) (bnd (F_X3_readOrder f_size a_signs f_count o6.2 a_kinds a_numbers) (fun o8 => brn (o8.1 = 0) (brn (o8.2.1 = 0) (J_X3_read_58 f_size a_signs (L_X3_read_17 f_size a_signs _n) x2 o8.2.2.1 o8.2.2.2.1 f_errorPlace o8.2.2.2.2.1 o8.2.2.2.2.2) (J_X3_read_59 f_size a_signs (L_X3_read_17 f_size a_signs _n) (1 : Int32) x2 o8.2.2.1 o8.2.2.2.1 f_errorPlace o8.2.2.2.2.1 o8.2.2.2.2.2)) (some (o8.1, (0 : Int32), o8.2.2.1, o8.2.2.2.1, f_errorPlace, o8.2.2.2.2.1, o8.2.2.2.2.2))))))))

def F_X3_read (f_size : Int32) (a_signs : Nat → Int32) (f_count : Int32) (f_place : Int32) (f_errorPlace : Int32) (a_kinds : Nat → Int32) (a_numbers : Nat → Int32) : Option (Nat × Int32 × Int32 × Int32 × Int32 × (Nat → Int32) × (Nat → Int32)) :=
  bnd (F_X3_readOrder f_size a_signs (0 : Int32) (0 : Int32) a_kinds a_numbers) (fun o1 => brn (o1.1 = 0) (L_X3_read_17 f_size a_signs 100 o1.2.1 (0 : Int32) o1.2.2.1 o1.2.2.2.1 f_errorPlace o1.2.2.2.2.1 o1.2.2.2.2.2) (some (o1.1, (0 : Int32), o1.2.2.1, o1.2.2.2.1, f_errorPlace, o1.2.2.2.2.1, o1.2.2.2.2.2)))
theorem dX3_read_0 : decode cX3_read 0 = .ok (.aload_n 0, 1) := by decide +kernel
theorem dX3_read_1 : decode cX3_read 1 = .ok (.iconst 0, 1) := by decide +kernel
theorem dX3_read_2 : decode cX3_read 2 = .ok (.putfield 29, 3) := by decide +kernel
theorem dX3_read_5 : decode cX3_read 5 = .ok (.aload_n 0, 1) := by decide +kernel
theorem dX3_read_6 : decode cX3_read 6 = .ok (.iconst 0, 1) := by decide +kernel
theorem dX3_read_7 : decode cX3_read 7 = .ok (.putfield 26, 3) := by decide +kernel
theorem dX3_read_10 : decode cX3_read 10 = .ok (.aload_n 0, 1) := by decide +kernel
theorem dX3_read_11 : decode cX3_read 11 = .ok (.invokevirtual 41, 3) := by decide +kernel
theorem dX3_read_14 : decode cX3_read 14 = .ok (.istore_n 1, 1) := by decide +kernel
theorem dX3_read_15 : decode cX3_read 15 = .ok (.iconst 0, 1) := by decide +kernel
theorem dX3_read_16 : decode cX3_read 16 = .ok (.istore_n 2, 1) := by decide +kernel
theorem dX3_read_17 : decode cX3_read 17 = .ok (.iload_n 2, 1) := by decide +kernel
theorem dX3_read_18 : decode cX3_read 18 = .ok (.bipush 60, 2) := by decide +kernel
theorem dX3_read_20 : decode cX3_read 20 = .ok (.if_icmp .ge 46, 3) := by decide +kernel
theorem dX3_read_23 : decode cX3_read 23 = .ok (.iload_n 1, 1) := by decide +kernel
theorem dX3_read_24 : decode cX3_read 24 = .ok (.ifCond .eq 42, 3) := by decide +kernel
theorem dX3_read_27 : decode cX3_read 27 = .ok (.aload_n 0, 1) := by decide +kernel
theorem dX3_read_28 : decode cX3_read 28 = .ok (.getfield 29, 3) := by decide +kernel
theorem dX3_read_31 : decode cX3_read 31 = .ok (.aload_n 0, 1) := by decide +kernel
theorem dX3_read_32 : decode cX3_read 32 = .ok (.getfield 22, 3) := by decide +kernel
theorem dX3_read_35 : decode cX3_read 35 = .ok (.if_icmp .ge 31, 3) := by decide +kernel
theorem dX3_read_38 : decode cX3_read 38 = .ok (.aload_n 0, 1) := by decide +kernel
theorem dX3_read_39 : decode cX3_read 39 = .ok (.bipush 59, 2) := by decide +kernel
theorem dX3_read_41 : decode cX3_read 41 = .ok (.invokevirtual 45, 3) := by decide +kernel
theorem dX3_read_44 : decode cX3_read 44 = .ok (.ifCond .eq 14, 3) := by decide +kernel
theorem dX3_read_47 : decode cX3_read 47 = .ok (.aload_n 0, 1) := by decide +kernel
theorem dX3_read_48 : decode cX3_read 48 = .ok (.invokevirtual 41, 3) := by decide +kernel
theorem dX3_read_51 : decode cX3_read 51 = .ok (.ifCond .eq 7, 3) := by decide +kernel
theorem dX3_read_54 : decode cX3_read 54 = .ok (.iconst 1, 1) := by decide +kernel
theorem dX3_read_55 : decode cX3_read 55 = .ok (.goto 4, 3) := by decide +kernel
theorem dX3_read_58 : decode cX3_read 58 = .ok (.iconst 0, 1) := by decide +kernel
theorem dX3_read_59 : decode cX3_read 59 = .ok (.istore_n 1, 1) := by decide +kernel
theorem dX3_read_60 : decode cX3_read 60 = .ok (.iinc 2 1, 3) := by decide +kernel
theorem dX3_read_63 : decode cX3_read 63 = .ok (.goto (-46), 3) := by decide +kernel
theorem dX3_read_66 : decode cX3_read 66 = .ok (.aload_n 0, 1) := by decide +kernel
theorem dX3_read_67 : decode cX3_read 67 = .ok (.iload_n 1, 1) := by decide +kernel
theorem dX3_read_68 : decode cX3_read 68 = .ok (.ifCond .eq 7, 3) := by decide +kernel
theorem dX3_read_71 : decode cX3_read 71 = .ok (.iconst (-1), 1) := by decide +kernel
theorem dX3_read_72 : decode cX3_read 72 = .ok (.goto 7, 3) := by decide +kernel
theorem dX3_read_75 : decode cX3_read 75 = .ok (.aload_n 0, 1) := by decide +kernel
theorem dX3_read_76 : decode cX3_read 76 = .ok (.getfield 29, 3) := by decide +kernel
theorem dX3_read_79 : decode cX3_read 79 = .ok (.putfield 32, 3) := by decide +kernel
theorem dX3_read_82 : decode cX3_read 82 = .ok (.iload_n 1, 1) := by decide +kernel
theorem dX3_read_83 : decode cX3_read 83 = .ok (.ireturn, 1) := by decide +kernel
theorem k_X3_read : cardV yX3_read (Cond.code yX3_read cX3_read 3 (some .boolean)) 0 := ⟨⟨qi_X3_read, qv_X3_read⟩, qc_X3_read, qn_X3, by decide +kernel, by decide +kernel, by decide +kernel⟩
set_option maxHeartbeats 4000000 in
set_option maxRecDepth 100000 in
theorem c_X3_read (l : Launch) (hfl : l.stackTraces = false) (ak av : Nat → Nat) (aS : Nat) (D : va_G) (g : Nat → ClassId) (q_this q_signs q_kinds q_numbers : Nat) (f_size : Int32) (f_count : Int32) (f_place : Int32) (f_errorPlace : Int32) (a_signs : Nat → Int32) (a_kinds : Nat → Int32) (a_numbers : Nat → Int32) (o : Nat × Int32 × Int32 × Int32 × Int32 × (Nat → Int32) × (Nat → Int32)) (h : F_X3_read f_size a_signs f_count f_place f_errorPlace a_kinds a_numbers = some o) : MX l yX3_read (Cond.code yX3_read cX3_read 3 (some .boolean)) { frames := 6, cells := 0, slots := 0, locals := 131 } ak av aS D g [.ref q_this] [(q_this, .inr (4, [.ref q_signs, .ref q_kinds, .ref q_numbers, .int f_size, .int f_count, .int f_place, .int f_errorPlace])), (q_signs, .inl (g 1, 60, .inl a_signs)), (q_kinds, .inl (g 0, 60, .inl a_kinds)), (q_numbers, .inl (g 0, 180, .inl a_numbers))] o.1 (some (.int o.2.1)) [(q_this, .inr (4, [.ref q_signs, .ref q_kinds, .ref q_numbers, .int f_size, .int o.2.2.1, .int o.2.2.2.1, .int o.2.2.2.2.1])), (q_signs, .inl (g 1, 60, .inl a_signs)), (q_kinds, .inl (g 0, 60, .inl o.2.2.2.2.2.1)), (q_numbers, .inl (g 0, 180, .inl o.2.2.2.2.2.2))] 0 0 := by
  refine z_ex_start (by decide) (Nat.le_of_ble_eq_true rfl) ?_
  intro p e s m args below meth c Q A X hr hE hA hno hQ
  refine z_lv (lv' := [(0, .ref q_this)]) rfl ?_
  have H79 : ∀ (t0 : Int32) (x1 : Int32) (f_count : Int32) (f_place : Int32) (f_errorPlace : Int32) (a_kinds : Nat → Int32) (a_numbers : Nat → Int32), J_X3_read_79 f_size a_signs t0 x1 f_count f_place f_errorPlace a_kinds a_numbers = some o → Z p l e { frames := 6, cells := 0, slots := 0, locals := 131 } s m args below meth c Q 3 0 0 (IW D A s [(q_this, .inr (4, [.ref q_signs, .ref q_kinds, .ref q_numbers, .int f_size, .int f_count, .int f_place, .int f_errorPlace])), (q_signs, .inl (g 1, 60, .inl a_signs)), (q_kinds, .inl (g 0, 60, .inl a_kinds)), (q_numbers, .inl (g 0, 180, .inl a_numbers))]) 79 [(1, .int x1)] [.int t0, .ref q_this] := by
    intro t0 x1 f_count f_place f_errorPlace a_kinds a_numbers h
    refine z_put (q0 := 0) (k := 6) (ci := 4) (ws' := [(q_this, .inr (4, [.ref q_signs, .ref q_kinds, .ref q_numbers, .int f_size, .int f_count, .int f_place, .int t0])), (q_signs, .inl (g 1, 60, .inl a_signs)), (q_kinds, .inl (g 0, 60, .inl a_kinds)), (q_numbers, .inl (g 0, 180, .inl a_numbers))]) X iw_X3 tyX3_ok nmX3 rfl qf_X3_X3_errorPlace (by decide) rfl rfl dX3_read_79 rfl rfl rfl (Nat.le_of_ble_eq_true rfl) rfl ?_
    refine z_iload_n X 0 dX3_read_82 rfl rfl ?_
    obtain ⟨e5, h⟩ := grd_p h
    cases h
    exact z_zretX X hQ (Nat.le_of_ble_eq_true rfl) (Nat.le_of_ble_eq_true rfl) hr dX3_read_83 (nar_bool e5)
  have H66 : ∀ (x1 : Int32) (f_count : Int32) (f_place : Int32) (f_errorPlace : Int32) (a_kinds : Nat → Int32) (a_numbers : Nat → Int32), J_X3_read_66 f_size a_signs x1 f_count f_place f_errorPlace a_kinds a_numbers = some o → Z p l e { frames := 6, cells := 0, slots := 0, locals := 131 } s m args below meth c Q 3 0 0 (IW D A s [(q_this, .inr (4, [.ref q_signs, .ref q_kinds, .ref q_numbers, .int f_size, .int f_count, .int f_place, .int f_errorPlace])), (q_signs, .inl (g 1, 60, .inl a_signs)), (q_kinds, .inl (g 0, 60, .inl a_kinds)), (q_numbers, .inl (g 0, 180, .inl a_numbers))]) 66 [(0, .ref q_this), (1, .int x1)] [] := by
    intro x1 f_count f_place f_errorPlace a_kinds a_numbers h
    refine z_aload_n X 0 dX3_read_66 rfl rfl ?_
    refine z_iload_n X 1 dX3_read_67 rfl rfl ?_
    refine z_if_eq X 75 dX3_read_68 (by decide) h (fun _ h => ?_) (fun _ h => ?_)
    · refine z_aload_n X 0 dX3_read_75 rfl rfl ?_
      refine z_get (q0 := 0) (k := 5) (ci := 4) X IW_P iw_X3 rfl qf_X3_X3_place (by decide) dX3_read_76 rfl rfl ?_
      refine z_widen (k := 0) (n := 0) (Nat.le_of_ble_eq_true rfl) (Nat.le_of_ble_eq_true rfl) ?_
      refine z_sub (lv' := [(1, .int x1)]) [1] rfl ?_
      exact H79 f_place x1 f_count f_place f_errorPlace a_kinds a_numbers h
    · refine z_iconst X ((-1) : Int32) dX3_read_71 (by decide) ?_
      refine z_goto X 79 dX3_read_72 (by decide) ?_
      refine z_widen (k := 0) (n := 0) (Nat.le_of_ble_eq_true rfl) (Nat.le_of_ble_eq_true rfl) ?_
      refine z_sub (lv' := [(1, .int x1)]) [1] rfl ?_
      exact H79 ((-1) : Int32) x1 f_count f_place f_errorPlace a_kinds a_numbers h
  have H17 : ∀ (n : Nat) (x1 : Int32) (x2 : Int32) (f_count : Int32) (f_place : Int32) (f_errorPlace : Int32) (a_kinds : Nat → Int32) (a_numbers : Nat → Int32), L_X3_read_17 f_size a_signs  n x1 x2 f_count f_place f_errorPlace a_kinds a_numbers = some o → Z p l e { frames := 6, cells := 0, slots := 0, locals := 131 } s m args below meth c Q 3 0 0 (IW D A s [(q_this, .inr (4, [.ref q_signs, .ref q_kinds, .ref q_numbers, .int f_size, .int f_count, .int f_place, .int f_errorPlace])), (q_signs, .inl (g 1, 60, .inl a_signs)), (q_kinds, .inl (g 0, 60, .inl a_kinds)), (q_numbers, .inl (g 0, 180, .inl a_numbers))]) 17 [(0, .ref q_this), (1, .int x1), (2, .int x2)] [] := by
    intro n
    induction n with
    | zero => intro x1 x2 f_count f_place f_errorPlace a_kinds a_numbers h; cases h
    | succ n17 ih17 =>
      intro x1 x2 f_count f_place f_errorPlace a_kinds a_numbers h
      have H59 : ∀ (t0 : Int32) (x2 : Int32) (f_count : Int32) (f_place : Int32) (f_errorPlace : Int32) (a_kinds : Nat → Int32) (a_numbers : Nat → Int32), J_X3_read_59 f_size a_signs (L_X3_read_17 f_size a_signs n17) t0 x2 f_count f_place f_errorPlace a_kinds a_numbers = some o → Z p l e { frames := 6, cells := 0, slots := 0, locals := 131 } s m args below meth c Q 3 0 0 (IW D A s [(q_this, .inr (4, [.ref q_signs, .ref q_kinds, .ref q_numbers, .int f_size, .int f_count, .int f_place, .int f_errorPlace])), (q_signs, .inl (g 1, 60, .inl a_signs)), (q_kinds, .inl (g 0, 60, .inl a_kinds)), (q_numbers, .inl (g 0, 180, .inl a_numbers))]) 59 [(0, .ref q_this), (2, .int x2)] [.int t0] := by
        intro t0 x2 f_count f_place f_errorPlace a_kinds a_numbers h
        refine z_istore_n X [(1, .int t0), (0, .ref q_this), (2, .int x2)] dX3_read_59 rfl (by decide) rfl ?_
        refine z_iinc X 2 [(2, .int (x2 + 1)), (1, .int t0), (0, .ref q_this)] dX3_read_60 rfl rfl (by decide) rfl ?_
        refine z_goto X 17 dX3_read_63 (by decide) ?_
        refine z_sub (lv' := [(0, .ref q_this), (1, .int t0), (2, .int (x2 + 1))]) [2, 1, 0] rfl ?_
        exact ih17 t0 (x2 + 1) f_count f_place f_errorPlace a_kinds a_numbers h
      have H58 : ∀ (x2 : Int32) (f_count : Int32) (f_place : Int32) (f_errorPlace : Int32) (a_kinds : Nat → Int32) (a_numbers : Nat → Int32), J_X3_read_58 f_size a_signs (L_X3_read_17 f_size a_signs n17) x2 f_count f_place f_errorPlace a_kinds a_numbers = some o → Z p l e { frames := 6, cells := 0, slots := 0, locals := 131 } s m args below meth c Q 3 0 0 (IW D A s [(q_this, .inr (4, [.ref q_signs, .ref q_kinds, .ref q_numbers, .int f_size, .int f_count, .int f_place, .int f_errorPlace])), (q_signs, .inl (g 1, 60, .inl a_signs)), (q_kinds, .inl (g 0, 60, .inl a_kinds)), (q_numbers, .inl (g 0, 180, .inl a_numbers))]) 58 [(0, .ref q_this), (2, .int x2)] [] := by
        intro x2 f_count f_place f_errorPlace a_kinds a_numbers h
        refine z_iconst X (0 : Int32) dX3_read_58 (by decide) ?_
        refine z_widen (k := 0) (n := 0) (Nat.le_of_ble_eq_true rfl) (Nat.le_of_ble_eq_true rfl) ?_
        exact H59 (0 : Int32) x2 f_count f_place f_errorPlace a_kinds a_numbers h
      refine z_iload_n X 2 dX3_read_17 rfl rfl ?_
      refine z_bipush X (60 : Int32) dX3_read_18 (by decide) ?_
      refine z_icmp_ge X 66 dX3_read_20 (by decide) h (fun _ h => ?_) (fun _ h => ?_)
      · refine z_widen (k := 0) (n := 0) (Nat.le_of_ble_eq_true rfl) (Nat.le_of_ble_eq_true rfl) ?_
        refine z_sub (lv' := [(0, .ref q_this), (1, .int x1)]) [0, 1] rfl ?_
        exact H66 x1 f_count f_place f_errorPlace a_kinds a_numbers h
      · refine z_iload_n X 1 dX3_read_23 rfl rfl ?_
        refine z_if_eq X 66 dX3_read_24 (by decide) h (fun _ h => ?_) (fun _ h => ?_)
        · refine z_widen (k := 0) (n := 0) (Nat.le_of_ble_eq_true rfl) (Nat.le_of_ble_eq_true rfl) ?_
          refine z_sub (lv' := [(0, .ref q_this), (1, .int x1)]) [0, 1] rfl ?_
          exact H66 x1 f_count f_place f_errorPlace a_kinds a_numbers h
        · refine z_aload_n X 0 dX3_read_27 rfl rfl ?_
          refine z_get (q0 := 0) (k := 5) (ci := 4) X IW_P iw_X3 rfl qf_X3_X3_place (by decide) dX3_read_28 rfl rfl ?_
          refine z_aload_n X 0 dX3_read_31 rfl rfl ?_
          refine z_get (q0 := 0) (k := 3) (ci := 4) X IW_P iw_X3 rfl qf_X3_X3_size (by decide) dX3_read_32 rfl rfl ?_
          refine z_icmp_ge X 66 dX3_read_35 (by decide) h (fun _ h => ?_) (fun _ h => ?_)
          · refine z_widen (k := 0) (n := 0) (Nat.le_of_ble_eq_true rfl) (Nat.le_of_ble_eq_true rfl) ?_
            refine z_sub (lv' := [(0, .ref q_this), (1, .int x1)]) [0, 1] rfl ?_
            exact H66 x1 f_count f_place f_errorPlace a_kinds a_numbers h
          · refine z_aload_n X 0 dX3_read_38 rfl rfl ?_
            refine z_bipush X (59 : Int32) dX3_read_39 (by decide) ?_
            obtain ⟨o6, e7, h⟩ := bnd_p h
            refine z_wrV (rest := []) (q0 := 0) (ci := 4) (ws' := [(q_this, .inr (4, [.ref q_signs, .ref q_kinds, .ref q_numbers, .int f_size, .int f_count, .int o6.2, .int f_errorPlace])), (q_signs, .inl (g 1, 60, .inl a_signs)), (q_kinds, .inl (g 0, 60, .inl a_kinds)), (q_numbers, .inl (g 0, 180, .inl a_numbers))]) (wr := [(q_kinds, .inl (g 0, 60, .inl a_kinds)), (q_numbers, .inl (g 0, 180, .inl a_numbers))]) (as := [q_this, q_signs, q_kinds, q_numbers]) X k_X3_readSign (c_X3_readSign l D g q_this q_signs q_kinds q_numbers (59 : Int32) f_size f_count f_place f_errorPlace a_signs o6 e7) ql_X3_X3_readSign dX3_read_41 [0, 1] [2, 3] ⟨rfl, rfl, rfl, rfl, rfl, rfl, rfl, rfl⟩ rfl rfl rfl rfl rfl ⟨Nat.le_of_ble_eq_true rfl, Nat.le_of_ble_eq_true rfl, rfl, rfl, Nat.le_of_ble_eq_true rfl, Nat.le_of_ble_eq_true rfl⟩ (Nat.le_of_ble_eq_true rfl) ?_
            refine z_if_eq X 58 dX3_read_44 (by decide) h (fun _ h => ?_) (fun _ h => ?_)
            · refine z_widen (k := 0) (n := 0) (Nat.le_of_ble_eq_true rfl) (Nat.le_of_ble_eq_true rfl) ?_
              refine z_sub (lv' := [(0, .ref q_this), (2, .int x2)]) [0, 2] rfl ?_
              exact H58 x2 f_count o6.2 f_errorPlace a_kinds a_numbers h
            · refine z_aload_n X 0 dX3_read_47 rfl rfl ?_
              obtain ⟨o8, e9, h⟩ := bnd_p h
              have f10 : fitsW [(q_this, .inr (4, [.ref q_signs, .ref q_kinds, .ref q_numbers, .int f_size, .int f_count, .int o6.2, .int f_errorPlace])), (q_signs, .inl (g 1, 60, .inl a_signs)), (q_kinds, .inl (g 0, 60, .inl a_kinds)), (q_numbers, .inl (g 0, 180, .inl a_numbers))] [(q_this, .inr (4, [.ref q_signs, .ref q_kinds, .ref q_numbers, .int f_size, .int o8.2.2.1, .int o8.2.2.2.1, .int f_errorPlace])), (q_signs, .inl (g 1, 60, .inl a_signs)), (q_kinds, .inl (g 0, 60, .inl o8.2.2.2.2.1)), (q_numbers, .inl (g 0, 180, .inl o8.2.2.2.2.2))] [(q_this, .inr (4, [.ref q_signs, .ref q_kinds, .ref q_numbers, .int f_size, .int f_count, .int o6.2, .int f_errorPlace])), (q_signs, .inl (g 1, 60, .inl a_signs)), (q_kinds, .inl (g 0, 60, .inl a_kinds)), (q_numbers, .inl (g 0, 180, .inl a_numbers))] [(q_this, .inr (4, [.ref q_signs, .ref q_kinds, .ref q_numbers, .int f_size, .int o8.2.2.1, .int o8.2.2.2.1, .int f_errorPlace])), (q_signs, .inl (g 1, 60, .inl a_signs)), (q_kinds, .inl (g 0, 60, .inl o8.2.2.2.2.1)), (q_numbers, .inl (g 0, 180, .inl o8.2.2.2.2.2))] [] [q_this, q_signs, q_kinds, q_numbers] [0, 1, 2, 3] [] := ⟨rfl, rfl, rfl, rfl, rfl, rfl, rfl, rfl⟩
              refine z_exV (rest := []) (q0 := 0) (ci := 4) (ws' := [(q_this, .inr (4, [.ref q_signs, .ref q_kinds, .ref q_numbers, .int f_size, .int o8.2.2.1, .int o8.2.2.2.1, .int f_errorPlace])), (q_signs, .inl (g 1, 60, .inl a_signs)), (q_kinds, .inl (g 0, 60, .inl o8.2.2.2.2.1)), (q_numbers, .inl (g 0, 180, .inl o8.2.2.2.2.2))]) X hE hA k_X3_readOrder (c_X3_readOrder l hfl ak av aS D g q_this q_signs q_kinds q_numbers f_size f_count o6.2 f_errorPlace a_signs a_kinds a_numbers o8 e9) ql_X3_X3_readOrder dX3_read_48 (bkc_of f10) (bk_of f10) rfl rfl rfl rfl rfl ⟨Nat.le_of_ble_eq_true rfl, Nat.le_of_ble_eq_true rfl, rfl, rfl, Nat.le_of_ble_eq_true rfl, Nat.le_of_ble_eq_true rfl⟩ (Nat.le_of_ble_eq_true rfl) (fun x11 => ?_) (fun x11 => ?_)
              · have h := brn_t h x11
                refine z_if_eq X 58 dX3_read_51 (by decide) h (fun _ h => ?_) (fun _ h => ?_)
                · refine z_widen (k := 0) (n := 0) (Nat.le_of_ble_eq_true rfl) (Nat.le_of_ble_eq_true rfl) ?_
                  refine z_sub (lv' := [(0, .ref q_this), (2, .int x2)]) [0, 2] rfl ?_
                  exact H58 x2 o8.2.2.1 o8.2.2.2.1 f_errorPlace o8.2.2.2.2.1 o8.2.2.2.2.2 h
                · refine z_iconst X (1 : Int32) dX3_read_54 (by decide) ?_
                  refine z_goto X 59 dX3_read_55 (by decide) ?_
                  refine z_widen (k := 0) (n := 0) (Nat.le_of_ble_eq_true rfl) (Nat.le_of_ble_eq_true rfl) ?_
                  refine z_sub (lv' := [(0, .ref q_this), (2, .int x2)]) [0, 2] rfl ?_
                  exact H59 (1 : Int32) x2 o8.2.2.1 o8.2.2.2.1 f_errorPlace o8.2.2.2.2.1 o8.2.2.2.2.2 h
              · have h := brn_f h x11
                cases h
                exact zt_out (lv := [(0, .ref q_this), (1, .int x1), (2, .int x2)]) X hno hQ x11 (Nat.le_of_ble_eq_true rfl) (Nat.le_of_ble_eq_true rfl)
  refine z_aload_n X 0 dX3_read_0 rfl rfl ?_
  refine z_iconst X (0 : Int32) dX3_read_1 (by decide) ?_
  refine z_put (q0 := 0) (k := 5) (ci := 4) (ws' := [(q_this, .inr (4, [.ref q_signs, .ref q_kinds, .ref q_numbers, .int f_size, .int f_count, .int (0 : Int32), .int f_errorPlace])), (q_signs, .inl (g 1, 60, .inl a_signs)), (q_kinds, .inl (g 0, 60, .inl a_kinds)), (q_numbers, .inl (g 0, 180, .inl a_numbers))]) X iw_X3 tyX3_ok nmX3 rfl qf_X3_X3_place (by decide) rfl rfl dX3_read_2 rfl rfl rfl (Nat.le_of_ble_eq_true rfl) rfl ?_
  refine z_aload_n X 0 dX3_read_5 rfl rfl ?_
  refine z_iconst X (0 : Int32) dX3_read_6 (by decide) ?_
  refine z_put (q0 := 0) (k := 4) (ci := 4) (ws' := [(q_this, .inr (4, [.ref q_signs, .ref q_kinds, .ref q_numbers, .int f_size, .int (0 : Int32), .int (0 : Int32), .int f_errorPlace])), (q_signs, .inl (g 1, 60, .inl a_signs)), (q_kinds, .inl (g 0, 60, .inl a_kinds)), (q_numbers, .inl (g 0, 180, .inl a_numbers))]) X iw_X3 tyX3_ok nmX3 rfl qf_X3_X3_count (by decide) rfl rfl dX3_read_7 rfl rfl rfl (Nat.le_of_ble_eq_true rfl) rfl ?_
  refine z_aload_n X 0 dX3_read_10 rfl rfl ?_
  obtain ⟨o1, e2, h⟩ := bnd_p h
  have f3 : fitsW [(q_this, .inr (4, [.ref q_signs, .ref q_kinds, .ref q_numbers, .int f_size, .int (0 : Int32), .int (0 : Int32), .int f_errorPlace])), (q_signs, .inl (g 1, 60, .inl a_signs)), (q_kinds, .inl (g 0, 60, .inl a_kinds)), (q_numbers, .inl (g 0, 180, .inl a_numbers))] [(q_this, .inr (4, [.ref q_signs, .ref q_kinds, .ref q_numbers, .int f_size, .int o1.2.2.1, .int o1.2.2.2.1, .int f_errorPlace])), (q_signs, .inl (g 1, 60, .inl a_signs)), (q_kinds, .inl (g 0, 60, .inl o1.2.2.2.2.1)), (q_numbers, .inl (g 0, 180, .inl o1.2.2.2.2.2))] [(q_this, .inr (4, [.ref q_signs, .ref q_kinds, .ref q_numbers, .int f_size, .int (0 : Int32), .int (0 : Int32), .int f_errorPlace])), (q_signs, .inl (g 1, 60, .inl a_signs)), (q_kinds, .inl (g 0, 60, .inl a_kinds)), (q_numbers, .inl (g 0, 180, .inl a_numbers))] [(q_this, .inr (4, [.ref q_signs, .ref q_kinds, .ref q_numbers, .int f_size, .int o1.2.2.1, .int o1.2.2.2.1, .int f_errorPlace])), (q_signs, .inl (g 1, 60, .inl a_signs)), (q_kinds, .inl (g 0, 60, .inl o1.2.2.2.2.1)), (q_numbers, .inl (g 0, 180, .inl o1.2.2.2.2.2))] [] [q_this, q_signs, q_kinds, q_numbers] [0, 1, 2, 3] [] := ⟨rfl, rfl, rfl, rfl, rfl, rfl, rfl, rfl⟩
  refine z_exV (rest := []) (q0 := 0) (ci := 4) (ws' := [(q_this, .inr (4, [.ref q_signs, .ref q_kinds, .ref q_numbers, .int f_size, .int o1.2.2.1, .int o1.2.2.2.1, .int f_errorPlace])), (q_signs, .inl (g 1, 60, .inl a_signs)), (q_kinds, .inl (g 0, 60, .inl o1.2.2.2.2.1)), (q_numbers, .inl (g 0, 180, .inl o1.2.2.2.2.2))]) X hE hA k_X3_readOrder (c_X3_readOrder l hfl ak av aS D g q_this q_signs q_kinds q_numbers f_size (0 : Int32) (0 : Int32) f_errorPlace a_signs a_kinds a_numbers o1 e2) ql_X3_X3_readOrder dX3_read_11 (bkc_of f3) (bk_of f3) rfl rfl rfl rfl rfl ⟨Nat.le_of_ble_eq_true rfl, Nat.le_of_ble_eq_true rfl, rfl, rfl, Nat.le_of_ble_eq_true rfl, Nat.le_of_ble_eq_true rfl⟩ (Nat.le_of_ble_eq_true rfl) (fun x4 => ?_) (fun x4 => ?_)
  · have h := brn_t h x4
    refine z_istore_n X [(1, .int o1.2.1), (0, .ref q_this)] dX3_read_14 rfl (by decide) rfl ?_
    refine z_iconst X (0 : Int32) dX3_read_15 (by decide) ?_
    refine z_istore_n X [(2, .int (0 : Int32)), (1, .int o1.2.1), (0, .ref q_this)] dX3_read_16 rfl (by decide) rfl ?_
    refine z_widen (k := 0) (n := 0) (Nat.le_of_ble_eq_true rfl) (Nat.le_of_ble_eq_true rfl) ?_
    refine z_sub (lv' := [(0, .ref q_this), (1, .int o1.2.1), (2, .int (0 : Int32))]) [2, 1, 0] rfl ?_
    exact H17 100 o1.2.1 (0 : Int32) o1.2.2.1 o1.2.2.2.1 f_errorPlace o1.2.2.2.2.1 o1.2.2.2.2.2 h
  · have h := brn_f h x4
    cases h
    exact zt_out (lv := [(0, .ref q_this)]) X hno hQ x4 (Nat.le_of_ble_eq_true rfl) (Nat.le_of_ble_eq_true rfl)

def F_X11_refusal (p1 : Int32) (f_reason_number : Int32) (f_reason_detail : Int32) : Option (Nat × Int32) :=
  bnd (F_X6_isGiven f_reason_number) (fun o1 => bnd (F_X11_demandFound o1) (fun o3 => brn (o3 = 0) (brn (p1 = 0) (some (0, f_reason_number)) (some (0, f_reason_detail))) (some (o3, (0 : Int32)))))
theorem dX11_refusal_0 : decode cX11_refusal 0 = .ok (.aload_n 0, 1) := by decide +kernel
theorem dX11_refusal_1 : decode cX11_refusal 1 = .ok (.getfield 36, 3) := by decide +kernel
theorem dX11_refusal_4 : decode cX11_refusal 4 = .ok (.invokevirtual 318, 3) := by decide +kernel
theorem dX11_refusal_7 : decode cX11_refusal 7 = .ok (.invokestatic 169, 3) := by decide +kernel
theorem dX11_refusal_10 : decode cX11_refusal 10 = .ok (.iload_n 1, 1) := by decide +kernel
theorem dX11_refusal_11 : decode cX11_refusal 11 = .ok (.ifCond .eq 13, 3) := by decide +kernel
theorem dX11_refusal_14 : decode cX11_refusal 14 = .ok (.aload_n 0, 1) := by decide +kernel
theorem dX11_refusal_15 : decode cX11_refusal 15 = .ok (.getfield 36, 3) := by decide +kernel
theorem dX11_refusal_18 : decode cX11_refusal 18 = .ok (.getfield 321, 3) := by decide +kernel
theorem dX11_refusal_21 : decode cX11_refusal 21 = .ok (.goto 10, 3) := by decide +kernel
theorem dX11_refusal_24 : decode cX11_refusal 24 = .ok (.aload_n 0, 1) := by decide +kernel
theorem dX11_refusal_25 : decode cX11_refusal 25 = .ok (.getfield 36, 3) := by decide +kernel
theorem dX11_refusal_28 : decode cX11_refusal 28 = .ok (.getfield 324, 3) := by decide +kernel
theorem dX11_refusal_31 : decode cX11_refusal 31 = .ok (.ireturn, 1) := by decide +kernel
theorem k_X11_refusal : cardV yX11_refusal (Cond.code yX11_refusal cX11_refusal 2 (some .int)) 1 := ⟨⟨qi_X11_refusal, qv_X11_refusal⟩, qc_X11_refusal, qn_X11, by decide +kernel, by decide +kernel, by decide +kernel⟩
set_option maxHeartbeats 4000000 in
set_option maxRecDepth 100000 in
theorem c_X11_refusal (l : Launch) (hfl : l.stackTraces = false) (ak av : Nat → Nat) (aS : Nat) (D : va_G) (g : Nat → ClassId) (q_this q_town q_ahead q_kept q_past q_reason q_orders q_ways q_sheet : Nat) (p1 : Int32) (f_isKept : Int32) (f_reason_number : Int32) (f_reason_detail : Int32) (o : Nat × Int32) (h : F_X11_refusal p1 f_reason_number f_reason_detail = some o) : MX l yX11_refusal (Cond.code yX11_refusal cX11_refusal 2 (some .int)) { frames := 8, cells := 1, slots := 6, locals := 130 } ak av aS D g [.ref q_this, .int p1] [(q_this, .inr (11, [.ref q_town, .ref q_ahead, .ref q_kept, .int f_isKept, .ref q_past, .ref q_reason, .ref q_orders, .ref q_ways, .ref q_sheet])), (q_reason, .inr (7, [.int f_reason_number, .int f_reason_detail]))] o.1 (some (.int o.2)) [(q_this, .inr (11, [.ref q_town, .ref q_ahead, .ref q_kept, .int f_isKept, .ref q_past, .ref q_reason, .ref q_orders, .ref q_ways, .ref q_sheet])), (q_reason, .inr (7, [.int f_reason_number, .int f_reason_detail]))] 1 6 := by
  refine z_ex_start (by decide) (Nat.le_of_ble_eq_true rfl) ?_
  intro p e s m args below meth c Q A X hr hE hA hno hQ
  refine z_lv (lv' := [(0, .ref q_this), (1, .int p1)]) rfl ?_
  refine z_aload_n X 0 dX11_refusal_0 rfl rfl ?_
  refine z_get (q0 := 0) (k := 5) (ci := 11) X IW_P iw_X11 rfl qf_X11_X11_reason (by decide) dX11_refusal_1 rfl rfl ?_
  obtain ⟨o1, e2, h⟩ := bnd_p h
  refine z_rdV (rest := []) (q0 := 1) (ci := 7) X IW_P k_X6_isGiven (c_X6_isGiven l D g q_reason f_reason_number f_reason_detail o1 e2) ql_X11_X6_isGiven dX11_refusal_4 [1] rfl rfl rfl rfl rfl rfl ⟨Nat.le_of_ble_eq_true rfl, Nat.le_of_ble_eq_true rfl, rfl, rfl, Nat.le_of_ble_eq_true rfl, Nat.le_of_ble_eq_true rfl⟩ (Nat.le_of_ble_eq_true rfl) ?_
  obtain ⟨o3, e4, h⟩ := bnd_p h
  refine z_exS (rest := []) (ws' := [(q_this, .inr (11, [.ref q_town, .ref q_ahead, .ref q_kept, .int f_isKept, .ref q_past, .ref q_reason, .ref q_orders, .ref q_ways, .ref q_sheet])), (q_reason, .inr (7, [.int f_reason_number, .int f_reason_detail]))]) X hE hA k_X11_demandFound (c_X11_demandFound l hfl ak av aS D g o1 o3 e4) ql_X11_X11_demandFound dX11_refusal_7 bkc_nil bk_nil rfl rfl ⟨Nat.le_of_ble_eq_true rfl, Nat.le_of_ble_eq_true rfl, rfl, rfl, Nat.le_of_ble_eq_true rfl, Nat.le_of_ble_eq_true rfl⟩ (Nat.le_of_ble_eq_true rfl) (fun x5 => ?_) (fun x5 => ?_)
  · have h := brn_t h x5
    refine z_iload_n X 1 dX11_refusal_10 rfl rfl ?_
    refine z_if_eq X 24 dX11_refusal_11 (by decide) h (fun _ h => ?_) (fun _ h => ?_)
    · refine z_aload_n X 0 dX11_refusal_24 rfl rfl ?_
      refine z_get (q0 := 0) (k := 5) (ci := 11) X IW_P iw_X11 rfl qf_X11_X11_reason (by decide) dX11_refusal_25 rfl rfl ?_
      refine z_getN (q0 := 1) (k := 0) (ci := 7) X IW_P iw_X6 rfl qfN_X11_X6_number (by decide) dX11_refusal_28 rfl rfl ?_
      cases h
      exact z_iretX X hQ (Nat.le_of_ble_eq_true rfl) (Nat.le_of_ble_eq_true rfl) hr dX11_refusal_31
    · refine z_aload_n X 0 dX11_refusal_14 rfl rfl ?_
      refine z_get (q0 := 0) (k := 5) (ci := 11) X IW_P iw_X11 rfl qf_X11_X11_reason (by decide) dX11_refusal_15 rfl rfl ?_
      refine z_getN (q0 := 1) (k := 1) (ci := 7) X IW_P iw_X6 rfl qfN_X11_X6_detail (by decide) dX11_refusal_18 rfl rfl ?_
      refine z_goto X 31 dX11_refusal_21 (by decide) ?_
      cases h
      exact z_iretX X hQ (Nat.le_of_ble_eq_true rfl) (Nat.le_of_ble_eq_true rfl) hr dX11_refusal_31
  · have h := brn_f h x5
    cases h
    exact zt_out (lv := [(0, .ref q_this), (1, .int p1)]) X hno hQ x5 (Nat.le_of_ble_eq_true rfl) (Nat.le_of_ble_eq_true rfl)
