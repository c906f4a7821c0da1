def F_X11_isWithin (p0 : Int32) (p1 : Int32) (p2 : Int32) : Option (Int32) :=
  brn (p0 < p1) (some ((0 : Int32))) (brn (p2 < p0) (some ((0 : Int32))) (some ((1 : Int32))))
theorem dX11_isWithin_0 : decode cX11_isWithin 0 = .ok (.iload_n 0, 1) := by decide +kernel
theorem dX11_isWithin_1 : decode cX11_isWithin 1 = .ok (.iload_n 1, 1) := by decide +kernel
theorem dX11_isWithin_2 : decode cX11_isWithin 2 = .ok (.if_icmp .lt 12, 3) := by decide +kernel
theorem dX11_isWithin_5 : decode cX11_isWithin 5 = .ok (.iload_n 0, 1) := by decide +kernel
theorem dX11_isWithin_6 : decode cX11_isWithin 6 = .ok (.iload_n 2, 1) := by decide +kernel
theorem dX11_isWithin_7 : decode cX11_isWithin 7 = .ok (.if_icmp .gt 7, 3) := by decide +kernel
theorem dX11_isWithin_10 : decode cX11_isWithin 10 = .ok (.iconst 1, 1) := by decide +kernel
theorem dX11_isWithin_11 : decode cX11_isWithin 11 = .ok (.goto 4, 3) := by decide +kernel
theorem dX11_isWithin_14 : decode cX11_isWithin 14 = .ok (.iconst 0, 1) := by decide +kernel
theorem dX11_isWithin_15 : decode cX11_isWithin 15 = .ok (.ireturn, 1) := by decide +kernel
theorem k_X11_isWithin : cardS yX11_isWithin (Cond.code yX11_isWithin cX11_isWithin 3 (some .boolean)) 3 := ⟨qs_X11_isWithin, qc_X11_isWithin, qn_X11, by decide +kernel, by decide +kernel, by decide +kernel⟩
set_option maxHeartbeats 4000000 in
set_option maxRecDepth 100000 in
theorem c_X11_isWithin (l : Launch) (D : va_G) (g : Nat → ClassId) (p0 p1 p2 : Int32) (o : Int32) (h : F_X11_isWithin p0 p1 p2 = some o) : MR l yX11_isWithin (Cond.code yX11_isWithin cX11_isWithin 3 (some .boolean)) { frames := 0, cells := 0, slots := 0, locals := 0 } D g [.int p0, .int p1, .int p2] [] (some (.int o)) := by
  refine z_rd_start (by decide) (Nat.le_of_ble_eq_true rfl) ?_
  intro p e s m args below meth c Q X hr hQ
  refine z_lv (lv' := [(0, .int p0), (1, .int p1), (2, .int p2)]) rfl ?_
  refine z_iload_n X 0 dX11_isWithin_0 rfl rfl ?_
  refine z_iload_n X 1 dX11_isWithin_1 rfl rfl ?_
  refine z_icmp_lt X 14 dX11_isWithin_2 (by decide) h (fun _ h => ?_) (fun _ h => ?_)
  · refine z_iconst X (0 : Int32) dX11_isWithin_14 (by decide) ?_
    exact z_zretR X hQ hr dX11_isWithin_15 rfl h
  · refine z_iload_n X 0 dX11_isWithin_5 rfl rfl ?_
    refine z_iload_n X 2 dX11_isWithin_6 rfl rfl ?_
    refine z_icmp_gt X 14 dX11_isWithin_7 (by decide) h (fun _ h => ?_) (fun _ h => ?_)
    · refine z_iconst X (0 : Int32) dX11_isWithin_14 (by decide) ?_
      exact z_zretR X hQ hr dX11_isWithin_15 rfl h
    · refine z_iconst X (1 : Int32) dX11_isWithin_10 (by decide) ?_
      refine z_goto X 15 dX11_isWithin_11 (by decide) ?_
      exact z_zretR X hQ hr dX11_isWithin_15 rfl h

def F_X0_isCell (p0 : Int32) : Option (Int32) :=
  bnd (F_X11_isWithin p0 (0 : Int32) (63 : Int32)) (fun o1 => grd (o1 = 0 ∨ o1 = 1) (some (o1)))
theorem dX0_isCell_0 : decode cX0_isCell 0 = .ok (.iload_n 0, 1) := by decide +kernel
theorem dX0_isCell_1 : decode cX0_isCell 1 = .ok (.iconst 0, 1) := by decide +kernel
theorem dX0_isCell_2 : decode cX0_isCell 2 = .ok (.bipush 63, 2) := by decide +kernel
theorem dX0_isCell_4 : decode cX0_isCell 4 = .ok (.invokestatic 9, 3) := by decide +kernel
theorem dX0_isCell_7 : decode cX0_isCell 7 = .ok (.ireturn, 1) := by decide +kernel
theorem k_X0_isCell : cardS yX0_isCell (Cond.code yX0_isCell cX0_isCell 1 (some .boolean)) 1 := ⟨qs_X0_isCell, qc_X0_isCell, qn_X0, by decide +kernel, by decide +kernel, by decide +kernel⟩
set_option maxHeartbeats 4000000 in
set_option maxRecDepth 100000 in
theorem c_X0_isCell (l : Launch) (D : va_G) (g : Nat → ClassId) (p0 : Int32) (o : Int32) (h : F_X0_isCell p0 = some o) : MR l yX0_isCell (Cond.code yX0_isCell cX0_isCell 1 (some .boolean)) { frames := 1, cells := 0, slots := 0, locals := 22 } D g [.int p0] [] (some (.int o)) := by
  refine z_rd_start (by decide) (Nat.le_of_ble_eq_true rfl) ?_
  intro p e s m args below meth c Q X hr hQ
  refine z_lv (lv' := [(0, .int p0)]) rfl ?_
  refine z_iload_n X 0 dX0_isCell_0 rfl rfl ?_
  refine z_iconst X (0 : Int32) dX0_isCell_1 (by decide) ?_
  refine z_bipush X (63 : Int32) dX0_isCell_2 (by decide) ?_
  obtain ⟨o1, e2, h⟩ := bnd_p h
  refine z_rdSN (rest := []) X IR_P k_X11_isWithin (c_X11_isWithin l D g p0 (0 : Int32) (63 : Int32) o1 e2) qlN_X0_X11_isWithin dX0_isCell_4 [] rfl rfl rfl ⟨Nat.le_of_ble_eq_true rfl, Nat.le_of_ble_eq_true rfl, rfl, rfl, Nat.le_of_ble_eq_true rfl, Nat.le_of_ble_eq_true rfl⟩ (Nat.le_of_ble_eq_true rfl) ?_
  obtain ⟨e3, h⟩ := grd_p h
  exact z_zretR X hQ hr dX0_isCell_7 (nar_bool e3) h

def F_X11_isHour (p0 : Int32) : Option (Int32) :=
  bnd (F_X11_isWithin p0 (0 : Int32) (23 : Int32)) (fun o1 => grd (o1 = 0 ∨ o1 = 1) (some (o1)))
theorem dX11_isHour_0 : decode cX11_isHour 0 = .ok (.iload_n 0, 1) := by decide +kernel
theorem dX11_isHour_1 : decode cX11_isHour 1 = .ok (.iconst 0, 1) := by decide +kernel
theorem dX11_isHour_2 : decode cX11_isHour 2 = .ok (.bipush 23, 2) := by decide +kernel
theorem dX11_isHour_4 : decode cX11_isHour 4 = .ok (.invokestatic 120, 3) := by decide +kernel
theorem dX11_isHour_7 : decode cX11_isHour 7 = .ok (.ireturn, 1) := by decide +kernel
theorem k_X11_isHour : cardS yX11_isHour (Cond.code yX11_isHour cX11_isHour 1 (some .boolean)) 1 := ⟨qs_X11_isHour, qc_X11_isHour, qn_X11, by decide +kernel, by decide +kernel, by decide +kernel⟩
set_option maxHeartbeats 4000000 in
set_option maxRecDepth 100000 in
theorem c_X11_isHour (l : Launch) (D : va_G) (g : Nat → ClassId) (p0 : Int32) (o : Int32) (h : F_X11_isHour p0 = some o) : MR l yX11_isHour (Cond.code yX11_isHour cX11_isHour 1 (some .boolean)) { frames := 1, cells := 0, slots := 0, locals := 22 } D g [.int p0] [] (some (.int o)) := by
  refine z_rd_start (by decide) (Nat.le_of_ble_eq_true rfl) ?_
  intro p e s m args below meth c Q X hr hQ
  refine z_lv (lv' := [(0, .int p0)]) rfl ?_
  refine z_iload_n X 0 dX11_isHour_0 rfl rfl ?_
  refine z_iconst X (0 : Int32) dX11_isHour_1 (by decide) ?_
  refine z_bipush X (23 : Int32) dX11_isHour_2 (by decide) ?_
  obtain ⟨o1, e2, h⟩ := bnd_p h
  refine z_rdS (rest := []) X IR_P k_X11_isWithin (c_X11_isWithin l D g p0 (0 : Int32) (23 : Int32) o1 e2) ql_X11_X11_isWithin dX11_isHour_4 [] rfl rfl rfl ⟨Nat.le_of_ble_eq_true rfl, Nat.le_of_ble_eq_true rfl, rfl, rfl, Nat.le_of_ble_eq_true rfl, Nat.le_of_ble_eq_true rfl⟩ (Nat.le_of_ble_eq_true rfl) ?_
  obtain ⟨e3, h⟩ := grd_p h
  exact z_zretR X hQ hr dX11_isHour_7 (nar_bool e3) h

def F_X7_at (n_p0 : Nat) (p1 : Int32) (a_p0 : Nat → Int32) : Option (Int32) :=
  brn (p1 < 0) (some (((-1) : Int32))) (brn ((Int32.ofNat n_p0) ≤ p1) (some (((-1) : Int32))) (grd (inb p1 n_p0) (some (a_p0 p1.toNatClampNeg))))
theorem dX7_at_0 : decode cX7_at 0 = .ok (.iload_n 1, 1) := by decide +kernel
theorem dX7_at_1 : decode cX7_at 1 = .ok (.ifCond .lt 15, 3) := by decide +kernel
theorem dX7_at_4 : decode cX7_at 4 = .ok (.iload_n 1, 1) := by decide +kernel
theorem dX7_at_5 : decode cX7_at 5 = .ok (.aload_n 0, 1) := by decide +kernel
theorem dX7_at_6 : decode cX7_at 6 = .ok (.arraylength, 1) := by decide +kernel
theorem dX7_at_7 : decode cX7_at 7 = .ok (.if_icmp .ge 9, 3) := by decide +kernel
theorem dX7_at_10 : decode cX7_at 10 = .ok (.aload_n 0, 1) := by decide +kernel
theorem dX7_at_11 : decode cX7_at 11 = .ok (.iload_n 1, 1) := by decide +kernel
theorem dX7_at_12 : decode cX7_at 12 = .ok (.iaload, 1) := by decide +kernel
theorem dX7_at_13 : decode cX7_at 13 = .ok (.goto 4, 3) := by decide +kernel
theorem dX7_at_16 : decode cX7_at 16 = .ok (.iconst (-1), 1) := by decide +kernel
theorem dX7_at_17 : decode cX7_at 17 = .ok (.ireturn, 1) := by decide +kernel
theorem k_X7_at : cardS yX7_at (Cond.code yX7_at cX7_at 2 (some .int)) 2 := ⟨qs_X7_at, qc_X7_at, qn_X7, by decide +kernel, by decide +kernel, by decide +kernel⟩
set_option maxHeartbeats 4000000 in
set_option maxRecDepth 100000 in
theorem c_X7_at (l : Launch) (D : va_G) (g : Nat → ClassId) (q_p0 : Nat) (n_p0 : Nat) (p1 : Int32) (a_p0 : Nat → Int32) (o : Int32) (h : F_X7_at n_p0 p1 a_p0 = some o) : MR l yX7_at (Cond.code yX7_at cX7_at 2 (some .int)) { frames := 0, cells := 0, slots := 0, locals := 0 } D g [.ref q_p0, .int p1] [(q_p0, .inl (g 0, n_p0, .inl a_p0))] (some (.int o)) := by
  refine z_rd_start (by decide) (Nat.le_of_ble_eq_true rfl) ?_
  intro p e s m args below meth c Q X hr hQ
  refine z_lv (lv' := [(0, .ref q_p0), (1, .int p1)]) rfl ?_
  refine z_iload_n X 1 dX7_at_0 rfl rfl ?_
  refine z_if_lt X 16 dX7_at_1 (by decide) h (fun _ h => ?_) (fun _ h => ?_)
  · refine z_iconst X ((-1) : Int32) dX7_at_16 (by decide) ?_
    exact z_iretR X hQ hr dX7_at_17 h
  · refine z_iload_n X 1 dX7_at_4 rfl rfl ?_
    refine z_aload_n X 0 dX7_at_5 rfl rfl ?_
    refine z_alen (q0 := 0) (v := Int32.ofNat n_p0) X IR_P 0 dX7_at_6 rfl rfl rfl ?_
    refine z_icmp_ge X 16 dX7_at_7 (by decide) h (fun _ h => ?_) (fun _ h => ?_)
    · refine z_iconst X ((-1) : Int32) dX7_at_16 (by decide) ?_
      exact z_iretR X hQ hr dX7_at_17 h
    · refine z_aload_n X 0 dX7_at_10 rfl rfl ?_
      refine z_iload_n X 1 dX7_at_11 rfl rfl ?_
      refine z_iald (q0 := 0) X IR_P dX7_at_12 rfl h (fun h => ?_)
      refine z_goto X 17 dX7_at_13 (by decide) ?_
      exact z_iretR X hQ hr dX7_at_17 h

def F_X9_isBlocked (p1 : Int32) (a_blocks : Nat → Int32) : Option (Int32) :=
  bnd (F_X7_at 64 p1 a_blocks) (fun o1 => brn (o1 = (1 : Int32)) (some ((1 : Int32))) (some ((0 : Int32))))
theorem dX9_isBlocked_0 : decode cX9_isBlocked 0 = .ok (.aload_n 0, 1) := by decide +kernel
theorem dX9_isBlocked_1 : decode cX9_isBlocked 1 = .ok (.getfield 32, 3) := by decide +kernel
theorem dX9_isBlocked_4 : decode cX9_isBlocked 4 = .ok (.iload_n 1, 1) := by decide +kernel
theorem dX9_isBlocked_5 : decode cX9_isBlocked 5 = .ok (.invokestatic 131, 3) := by decide +kernel
theorem dX9_isBlocked_8 : decode cX9_isBlocked 8 = .ok (.iconst 1, 1) := by decide +kernel
theorem dX9_isBlocked_9 : decode cX9_isBlocked 9 = .ok (.if_icmp .ne 7, 3) := by decide +kernel
theorem dX9_isBlocked_12 : decode cX9_isBlocked 12 = .ok (.iconst 1, 1) := by decide +kernel
theorem dX9_isBlocked_13 : decode cX9_isBlocked 13 = .ok (.goto 4, 3) := by decide +kernel
theorem dX9_isBlocked_16 : decode cX9_isBlocked 16 = .ok (.iconst 0, 1) := by decide +kernel
theorem dX9_isBlocked_17 : decode cX9_isBlocked 17 = .ok (.ireturn, 1) := by decide +kernel
theorem k_X9_isBlocked : cardV yX9_isBlocked (Cond.code yX9_isBlocked cX9_isBlocked 2 (some .boolean)) 1 := ⟨⟨qi_X9_isBlocked, qv_X9_isBlocked⟩, qc_X9_isBlocked, qn_X9, by decide +kernel, by decide +kernel, by decide +kernel⟩
set_option maxHeartbeats 4000000 in
set_option maxRecDepth 100000 in
theorem c_X9_isBlocked (l : Launch) (D : va_G) (g : Nat → ClassId) (q_this q_houses q_halls q_posts q_blocks q_kinds : Nat) (p1 : Int32) (f_hour : Int32) (f_day : Int32) (f_prankHouse : Int32) (f_bells : Int32) (f_echoes : Int32) (f_bellPranks : Int32) (a_blocks : Nat → Int32) (o : Int32) (h : F_X9_isBlocked p1 a_blocks = some o) : MR l yX9_isBlocked (Cond.code yX9_isBlocked cX9_isBlocked 2 (some .boolean)) { frames := 1, cells := 0, slots := 0, locals := 21 } D g [.ref q_this, .int p1] [(q_this, .inr (9, [.ref q_houses, .ref q_halls, .ref q_posts, .ref q_blocks, .ref q_kinds, .int f_hour, .int f_day, .int f_prankHouse, .int f_bells, .int f_echoes, .int f_bellPranks])), (q_blocks, .inl (g 0, 64, .inl a_blocks))] (some (.int o)) := by
  refine z_rd_start (by decide) (Nat.le_of_ble_eq_true rfl) ?_
  intro p e s m args below meth c Q X hr hQ
  refine z_lv (lv' := [(0, .ref q_this), (1, .int p1)]) rfl ?_
  refine z_aload_n X 0 dX9_isBlocked_0 rfl rfl ?_
  refine z_get (q0 := 0) (k := 3) (ci := 9) X IR_P iw_X9 rfl qf_X9_X9_blocks (by decide) dX9_isBlocked_1 rfl rfl ?_
  refine z_iload_n X 1 dX9_isBlocked_4 rfl rfl ?_
  obtain ⟨o1, e2, h⟩ := bnd_p h
  refine z_rdS (rest := []) X IR_P k_X7_at (c_X7_at l D g q_blocks 64 p1 a_blocks o1 e2) ql_X9_X7_at dX9_isBlocked_5 [1] rfl rfl rfl ⟨Nat.le_of_ble_eq_true rfl, Nat.le_of_ble_eq_true rfl, rfl, rfl, Nat.le_of_ble_eq_true rfl, Nat.le_of_ble_eq_true rfl⟩ (Nat.le_of_ble_eq_true rfl) ?_
  refine z_iconst X (1 : Int32) dX9_isBlocked_8 (by decide) ?_
  refine z_icmp_ne X 16 dX9_isBlocked_9 (by decide) h (fun _ h => ?_) (fun _ h => ?_)
  · refine z_iconst X (1 : Int32) dX9_isBlocked_12 (by decide) ?_
    refine z_goto X 17 dX9_isBlocked_13 (by decide) ?_
    exact z_zretR X hQ hr dX9_isBlocked_17 rfl h
  · refine z_iconst X (0 : Int32) dX9_isBlocked_16 (by decide) ?_
    exact z_zretR X hQ hr dX9_isBlocked_17 rfl h

def F_X6_refuse (p1 : Int32) (p2 : Int32) (f_number : Int32) (f_detail : Int32) : Option (Int32 × Int32 × Int32) :=
  some ((3 : Int32), p1, p2)
theorem dX6_refuse_0 : decode cX6_refuse 0 = .ok (.aload_n 0, 1) := by decide +kernel
theorem dX6_refuse_1 : decode cX6_refuse 1 = .ok (.iload_n 1, 1) := by decide +kernel
theorem dX6_refuse_2 : decode cX6_refuse 2 = .ok (.putfield 9, 3) := by decide +kernel
theorem dX6_refuse_5 : decode cX6_refuse 5 = .ok (.aload_n 0, 1) := by decide +kernel
theorem dX6_refuse_6 : decode cX6_refuse 6 = .ok (.iload_n 2, 1) := by decide +kernel
theorem dX6_refuse_7 : decode cX6_refuse 7 = .ok (.putfield 15, 3) := by decide +kernel
theorem dX6_refuse_10 : decode cX6_refuse 10 = .ok (.iconst 3, 1) := by decide +kernel
theorem dX6_refuse_11 : decode cX6_refuse 11 = .ok (.ireturn, 1) := by decide +kernel
theorem k_X6_refuse : cardV yX6_refuse (Cond.code yX6_refuse cX6_refuse 3 (some .int)) 2 := ⟨⟨qi_X6_refuse, qv_X6_refuse⟩, qc_X6_refuse, qn_X6, by decide +kernel, by decide +kernel, by decide +kernel⟩
set_option maxHeartbeats 4000000 in
set_option maxRecDepth 100000 in
theorem c_X6_refuse (l : Launch) (D : va_G) (g : Nat → ClassId) (q_this : Nat) (p1 p2 : Int32) (f_number : Int32) (f_detail : Int32) (o : Int32 × Int32 × Int32) (h : F_X6_refuse p1 p2 f_number f_detail = some o) : MW l yX6_refuse (Cond.code yX6_refuse cX6_refuse 3 (some .int)) { frames := 0, cells := 0, slots := 0, locals := 0 } D g [.ref q_this, .int p1, .int p2] [(q_this, .inr (7, [.int f_number, .int f_detail]))] (some (.int o.1)) [(q_this, .inr (7, [.int o.2.1, .int o.2.2]))] := by
  refine z_wr_start (by decide) (Nat.le_of_ble_eq_true rfl) ?_
  intro p e s m args below meth c Q A X hr hQ hA
  refine z_lv (lv' := [(0, .ref q_this), (1, .int p1), (2, .int p2)]) rfl ?_
  refine z_aload_n X 0 dX6_refuse_0 rfl rfl ?_
  refine z_iload_n X 1 dX6_refuse_1 rfl rfl ?_
  refine z_put (q0 := 0) (k := 0) (ci := 7) (ws' := [(q_this, .inr (7, [.int p1, .int f_detail]))]) X iw_X6 tyX6_ok nmX6 rfl qf_X6_X6_number (by decide) rfl rfl dX6_refuse_2 rfl rfl rfl (Nat.le_of_ble_eq_true rfl) rfl ?_
  refine z_aload_n X 0 dX6_refuse_5 rfl rfl ?_
  refine z_iload_n X 2 dX6_refuse_6 rfl rfl ?_
  refine z_put (q0 := 0) (k := 1) (ci := 7) (ws' := [(q_this, .inr (7, [.int p1, .int p2]))]) X iw_X6 tyX6_ok nmX6 rfl qf_X6_X6_detail (by decide) rfl rfl dX6_refuse_7 rfl rfl rfl (Nat.le_of_ble_eq_true rfl) rfl ?_
  refine z_iconst X (3 : Int32) dX6_refuse_10 (by decide) ?_
  cases h
  exact z_iretW X hQ hA hr dX6_refuse_11

def L_X7_placeOf_2 (n_p0 : Nat) (p1 : Int32) (p2 : Int32) (a_p0 : Nat → Int32) : Nat → Int32 → Option (Int32)
  | 0, _ => none
  | _n + 1, x3 =>
    brn (p1 ≤ x3) (some (((-1) : Int32))) (brn ((Int32.ofNat n_p0) ≤ x3) (some (((-1) : Int32))) (grd (inb x3 n_p0) (brn ((a_p0 x3.toNatClampNeg) = p2) (some (x3)) (L_X7_placeOf_2 n_p0 p1 p2 a_p0 _n (x3 + 1)))))

def F_X7_placeOf (n_p0 : Nat) (p1 : Int32) (p2 : Int32) (a_p0 : Nat → Int32) : Option (Int32) :=
  L_X7_placeOf_2 n_p0 p1 p2 a_p0 100 (0 : Int32)
theorem dX7_placeOf_0 : decode cX7_placeOf 0 = .ok (.iconst 0, 1) := by decide +kernel
theorem dX7_placeOf_1 : decode cX7_placeOf 1 = .ok (.istore_n 3, 1) := by decide +kernel
theorem dX7_placeOf_2 : decode cX7_placeOf 2 = .ok (.iload_n 3, 1) := by decide +kernel
theorem dX7_placeOf_3 : decode cX7_placeOf 3 = .ok (.iload_n 1, 1) := by decide +kernel
theorem dX7_placeOf_4 : decode cX7_placeOf 4 = .ok (.if_icmp .ge 24, 3) := by decide +kernel
theorem dX7_placeOf_7 : decode cX7_placeOf 7 = .ok (.iload_n 3, 1) := by decide +kernel
theorem dX7_placeOf_8 : decode cX7_placeOf 8 = .ok (.aload_n 0, 1) := by decide +kernel
theorem dX7_placeOf_9 : decode cX7_placeOf 9 = .ok (.arraylength, 1) := by decide +kernel
theorem dX7_placeOf_10 : decode cX7_placeOf 10 = .ok (.if_icmp .ge 18, 3) := by decide +kernel
theorem dX7_placeOf_13 : decode cX7_placeOf 13 = .ok (.aload_n 0, 1) := by decide +kernel
theorem dX7_placeOf_14 : decode cX7_placeOf 14 = .ok (.iload_n 3, 1) := by decide +kernel
theorem dX7_placeOf_15 : decode cX7_placeOf 15 = .ok (.iaload, 1) := by decide +kernel
theorem dX7_placeOf_16 : decode cX7_placeOf 16 = .ok (.iload_n 2, 1) := by decide +kernel
theorem dX7_placeOf_17 : decode cX7_placeOf 17 = .ok (.if_icmp .ne 5, 3) := by decide +kernel
theorem dX7_placeOf_20 : decode cX7_placeOf 20 = .ok (.iload_n 3, 1) := by decide +kernel
theorem dX7_placeOf_21 : decode cX7_placeOf 21 = .ok (.ireturn, 1) := by decide +kernel
theorem dX7_placeOf_22 : decode cX7_placeOf 22 = .ok (.iinc 3 1, 3) := by decide +kernel
theorem dX7_placeOf_25 : decode cX7_placeOf 25 = .ok (.goto (-23), 3) := by decide +kernel
theorem dX7_placeOf_28 : decode cX7_placeOf 28 = .ok (.iconst (-1), 1) := by decide +kernel
theorem dX7_placeOf_29 : decode cX7_placeOf 29 = .ok (.ireturn, 1) := by decide +kernel
theorem k_X7_placeOf : cardS yX7_placeOf (Cond.code yX7_placeOf cX7_placeOf 4 (some .int)) 3 := ⟨qs_X7_placeOf, qc_X7_placeOf, qn_X7, by decide +kernel, by decide +kernel, by decide +kernel⟩
set_option maxHeartbeats 4000000 in
set_option maxRecDepth 100000 in
theorem c_X7_placeOf (l : Launch) (D : va_G) (g : Nat → ClassId) (q_p0 : Nat) (n_p0 : Nat) (p1 p2 : Int32) (a_p0 : Nat → Int32) (o : Int32) (h : F_X7_placeOf n_p0 p1 p2 a_p0 = some o) : MR l yX7_placeOf (Cond.code yX7_placeOf cX7_placeOf 4 (some .int)) { frames := 0, cells := 0, slots := 0, locals := 0 } D g [.ref q_p0, .int p1, .int p2] [(q_p0, .inl (g 0, n_p0, .inl a_p0))] (some (.int o)) := by
  refine z_rd_start (by decide) (Nat.le_of_ble_eq_true rfl) ?_
  intro p e s m args below meth c Q X hr hQ
  refine z_lv (lv' := [(0, .ref q_p0), (1, .int p1), (2, .int p2)]) rfl ?_
  have H2 : ∀ (n : Nat) (x3 : Int32), L_X7_placeOf_2 n_p0 p1 p2 a_p0  n x3 = some o → Z p l e { frames := 0, cells := 0, slots := 0, locals := 0 } s m args below meth c Q 4 0 0 (IR D [(q_p0, .inl (g 0, n_p0, .inl a_p0))] s) 2 [(0, .ref q_p0), (1, .int p1), (2, .int p2), (3, .int x3)] [] := by
    intro n
    induction n with
    | zero => intro x3 h; cases h
    | succ n2 ih2 =>
      intro x3 h
      refine z_iload_n X 3 dX7_placeOf_2 rfl rfl ?_
      refine z_iload_n X 1 dX7_placeOf_3 rfl rfl ?_
      refine z_icmp_ge X 28 dX7_placeOf_4 (by decide) h (fun _ h => ?_) (fun _ h => ?_)
      · refine z_iconst X ((-1) : Int32) dX7_placeOf_28 (by decide) ?_
        exact z_iretR X hQ hr dX7_placeOf_29 h
      · refine z_iload_n X 3 dX7_placeOf_7 rfl rfl ?_
        refine z_aload_n X 0 dX7_placeOf_8 rfl rfl ?_
        refine z_alen (q0 := 0) (v := Int32.ofNat n_p0) X IR_P 0 dX7_placeOf_9 rfl rfl rfl ?_
        refine z_icmp_ge X 28 dX7_placeOf_10 (by decide) h (fun _ h => ?_) (fun _ h => ?_)
        · refine z_iconst X ((-1) : Int32) dX7_placeOf_28 (by decide) ?_
          exact z_iretR X hQ hr dX7_placeOf_29 h
        · refine z_aload_n X 0 dX7_placeOf_13 rfl rfl ?_
          refine z_iload_n X 3 dX7_placeOf_14 rfl rfl ?_
          refine z_iald (q0 := 0) X IR_P dX7_placeOf_15 rfl h (fun h => ?_)
          refine z_iload_n X 2 dX7_placeOf_16 rfl rfl ?_
          refine z_icmp_ne X 22 dX7_placeOf_17 (by decide) h (fun _ h => ?_) (fun _ h => ?_)
          · refine z_iload_n X 3 dX7_placeOf_20 rfl rfl ?_
            exact z_iretR X hQ hr dX7_placeOf_21 h
          · refine z_iinc X 3 [(3, .int (x3 + 1)), (0, .ref q_p0), (1, .int p1), (2, .int p2)] dX7_placeOf_22 rfl rfl (by decide) rfl ?_
            refine z_goto X 2 dX7_placeOf_25 (by decide) ?_
            refine z_sub (lv' := [(0, .ref q_p0), (1, .int p1), (2, .int p2), (3, .int (x3 + 1))]) [1, 2, 3, 0] rfl ?_
            exact ih2 (x3 + 1) h
  refine z_iconst X (0 : Int32) dX7_placeOf_0 (by decide) ?_
  refine z_istore_n X [(3, .int (0 : Int32)), (0, .ref q_p0), (1, .int p1), (2, .int p2)] dX7_placeOf_1 rfl (by decide) rfl ?_
  refine z_sub (lv' := [(0, .ref q_p0), (1, .int p1), (2, .int p2), (3, .int (0 : Int32))]) [1, 2, 3, 0] rfl ?_
  exact H2 100 (0 : Int32) h

def F_X2_on (p1 : Int32) (f_size : Int32) (a_cells : Nat → Int32) : Option (Int32) :=
  bnd (F_X7_placeOf 10 f_size p1 a_cells) (fun o1 => some (o1))
theorem dX2_on_0 : decode cX2_on 0 = .ok (.aload_n 0, 1) := by decide +kernel
theorem dX2_on_1 : decode cX2_on 1 = .ok (.getfield 9, 3) := by decide +kernel
theorem dX2_on_4 : decode cX2_on 4 = .ok (.aload_n 0, 1) := by decide +kernel
theorem dX2_on_5 : decode cX2_on 5 = .ok (.getfield 27, 3) := by decide +kernel
theorem dX2_on_8 : decode cX2_on 8 = .ok (.iload_n 1, 1) := by decide +kernel
theorem dX2_on_9 : decode cX2_on 9 = .ok (.invokestatic 31, 3) := by decide +kernel
theorem dX2_on_12 : decode cX2_on 12 = .ok (.ireturn, 1) := by decide +kernel
theorem k_X2_on : cardV yX2_on (Cond.code yX2_on cX2_on 2 (some .int)) 1 := ⟨⟨qi_X2_on, qv_X2_on⟩, qc_X2_on, qn_X2, by decide +kernel, by decide +kernel, by decide +kernel⟩
set_option maxHeartbeats 4000000 in
set_option maxRecDepth 100000 in
theorem c_X2_on (l : Launch) (D : va_G) (g : Nat → ClassId) (q_this q_cells q_froms q_tos q_rings q_pranks : Nat) (p1 : Int32) (f_size : Int32) (a_cells : Nat → Int32) (o : Int32) (h : F_X2_on p1 f_size a_cells = some o) : MR l yX2_on (Cond.code yX2_on cX2_on 2 (some .int)) { frames := 1, cells := 0, slots := 0, locals := 23 } D g [.ref q_this, .int p1] [(q_this, .inr (3, [.int f_size, .ref q_cells, .ref q_froms, .ref q_tos, .ref q_rings, .ref q_pranks])), (q_cells, .inl (g 0, 10, .inl a_cells))] (some (.int o)) := by
  refine z_rd_start (by decide) (Nat.le_of_ble_eq_true rfl) ?_
  intro p e s m args below meth c Q X hr hQ
  refine z_lv (lv' := [(0, .ref q_this), (1, .int p1)]) rfl ?_
  refine z_aload_n X 0 dX2_on_0 rfl rfl ?_
  refine z_get (q0 := 0) (k := 1) (ci := 3) X IR_P iw_X2 rfl qf_X2_X2_cells (by decide) dX2_on_1 rfl rfl ?_
  refine z_aload_n X 0 dX2_on_4 rfl rfl ?_
  refine z_get (q0 := 0) (k := 0) (ci := 3) X IR_P iw_X2 rfl qf_X2_X2_size (by decide) dX2_on_5 rfl rfl ?_
  refine z_iload_n X 1 dX2_on_8 rfl rfl ?_
  obtain ⟨o1, e2, h⟩ := bnd_p h
  refine z_rdS (rest := []) X IR_P k_X7_placeOf (c_X7_placeOf l D g q_cells 10 f_size p1 a_cells o1 e2) ql_X2_X7_placeOf dX2_on_9 [1] rfl rfl rfl ⟨Nat.le_of_ble_eq_true rfl, Nat.le_of_ble_eq_true rfl, rfl, rfl, Nat.le_of_ble_eq_true rfl, Nat.le_of_ble_eq_true rfl⟩ (Nat.le_of_ble_eq_true rfl) ?_
  exact z_iretR X hQ hr dX2_on_12 h

def F_X2_isFull (f_size : Int32) : Option (Int32) :=
  brn (f_size < (10 : Int32)) (some ((0 : Int32))) (some ((1 : Int32)))
theorem dX2_isFull_0 : decode cX2_isFull 0 = .ok (.aload_n 0, 1) := by decide +kernel
theorem dX2_isFull_1 : decode cX2_isFull 1 = .ok (.getfield 27, 3) := by decide +kernel
theorem dX2_isFull_4 : decode cX2_isFull 4 = .ok (.bipush 10, 2) := by decide +kernel
theorem dX2_isFull_6 : decode cX2_isFull 6 = .ok (.if_icmp .lt 7, 3) := by decide +kernel
theorem dX2_isFull_9 : decode cX2_isFull 9 = .ok (.iconst 1, 1) := by decide +kernel
theorem dX2_isFull_10 : decode cX2_isFull 10 = .ok (.goto 4, 3) := by decide +kernel
theorem dX2_isFull_13 : decode cX2_isFull 13 = .ok (.iconst 0, 1) := by decide +kernel
theorem dX2_isFull_14 : decode cX2_isFull 14 = .ok (.ireturn, 1) := by decide +kernel
theorem k_X2_isFull : cardV yX2_isFull (Cond.code yX2_isFull cX2_isFull 1 (some .boolean)) 0 := ⟨⟨qi_X2_isFull, qv_X2_isFull⟩, qc_X2_isFull, qn_X2, by decide +kernel, by decide +kernel, by decide +kernel⟩
set_option maxHeartbeats 4000000 in
set_option maxRecDepth 100000 in
theorem c_X2_isFull (l : Launch) (D : va_G) (g : Nat → ClassId) (q_this q_cells q_froms q_tos q_rings q_pranks : Nat) (f_size : Int32) (o : Int32) (h : F_X2_isFull f_size = some o) : MR l yX2_isFull (Cond.code yX2_isFull cX2_isFull 1 (some .boolean)) { frames := 0, cells := 0, slots := 0, locals := 0 } D g [.ref q_this] [(q_this, .inr (3, [.int f_size, .ref q_cells, .ref q_froms, .ref q_tos, .ref q_rings, .ref q_pranks]))] (some (.int o)) := by
  refine z_rd_start (by decide) (Nat.le_of_ble_eq_true rfl) ?_
  intro p e s m args below meth c Q X hr hQ
  refine z_lv (lv' := [(0, .ref q_this)]) rfl ?_
  refine z_aload_n X 0 dX2_isFull_0 rfl rfl ?_
  refine z_get (q0 := 0) (k := 0) (ci := 3) X IR_P iw_X2 rfl qf_X2_X2_size (by decide) dX2_isFull_1 rfl rfl ?_
  refine z_bipush X (10 : Int32) dX2_isFull_4 (by decide) ?_
  refine z_icmp_lt X 13 dX2_isFull_6 (by decide) h (fun _ h => ?_) (fun _ h => ?_)
  · refine z_iconst X (0 : Int32) dX2_isFull_13 (by decide) ?_
    exact z_zretR X hQ hr dX2_isFull_14 rfl h
  · refine z_iconst X (1 : Int32) dX2_isFull_9 (by decide) ?_
    refine z_goto X 14 dX2_isFull_10 (by decide) ?_
    exact z_zretR X hQ hr dX2_isFull_14 rfl h

def F_X9_judgeHouse (p1 : Int32) (p2 : Int32) (p3 : Int32) (f_houses_size : Int32) (a_houses_cells : Nat → Int32) (a_blocks : Nat → Int32) (f_p4_number : Int32) (f_p4_detail : Int32) : Option (Int32 × Int32 × Int32) :=
  bnd (F_X0_isCell p1) (fun o1 => brn (o1 = 0) (some ((2 : Int32), f_p4_number, f_p4_detail)) (bnd (F_X11_isHour p2) (fun o3 => brn (o3 = 0) (some ((2 : Int32), f_p4_number, f_p4_detail)) (bnd (F_X11_isHour p3) (fun o5 => brn (o5 = 0) (some ((2 : Int32), f_p4_number, f_p4_detail)) (bnd (F_X9_isBlocked p1 a_blocks) (fun o7 => brn (o7 = 0) (bnd (F_X2_on p1 f_houses_size a_houses_cells) (fun o9 => brn (o9 = ((-1) : Int32)) (bnd (F_X2_isFull f_houses_size) (fun o11 => brn (o11 = 0) (some ((0 : Int32), f_p4_number, f_p4_detail)) (bnd (F_X6_refuse (1 : Int32) (10 : Int32) f_p4_number f_p4_detail) (fun o13 => some (o13.1, o13.2.1, o13.2.2))))) (bnd (F_X2_on p1 f_houses_size a_houses_cells) (fun o15 => bnd (F_X6_refuse (3 : Int32) o15 f_p4_number f_p4_detail) (fun o17 => some (o17.1, o17.2.1, o17.2.2)))))) (bnd (F_X6_refuse (2 : Int32) p1 f_p4_number f_p4_detail) (fun o19 => some (o19.1, o19.2.1, o19.2.2))))))))))
theorem dX9_judgeHouse_0 : decode cX9_judgeHouse 0 = .ok (.iload_n 1, 1) := by decide +kernel
theorem dX9_judgeHouse_1 : decode cX9_judgeHouse 1 = .ok (.invokestatic 73, 3) := by decide +kernel
theorem dX9_judgeHouse_4 : decode cX9_judgeHouse 4 = .ok (.ifCond .eq 17, 3) := by decide +kernel
theorem dX9_judgeHouse_7 : decode cX9_judgeHouse 7 = .ok (.iload_n 2, 1) := by decide +kernel
theorem dX9_judgeHouse_8 : decode cX9_judgeHouse 8 = .ok (.invokestatic 79, 3) := by decide +kernel
theorem dX9_judgeHouse_11 : decode cX9_judgeHouse 11 = .ok (.ifCond .eq 10, 3) := by decide +kernel
theorem dX9_judgeHouse_14 : decode cX9_judgeHouse 14 = .ok (.iload_n 3, 1) := by decide +kernel
theorem dX9_judgeHouse_15 : decode cX9_judgeHouse 15 = .ok (.invokestatic 79, 3) := by decide +kernel
theorem dX9_judgeHouse_18 : decode cX9_judgeHouse 18 = .ok (.ifCond .ne 5, 3) := by decide +kernel
theorem dX9_judgeHouse_21 : decode cX9_judgeHouse 21 = .ok (.iconst 2, 1) := by decide +kernel
theorem dX9_judgeHouse_22 : decode cX9_judgeHouse 22 = .ok (.ireturn, 1) := by decide +kernel
theorem dX9_judgeHouse_23 : decode cX9_judgeHouse 23 = .ok (.aload_n 0, 1) := by decide +kernel
theorem dX9_judgeHouse_24 : decode cX9_judgeHouse 24 = .ok (.iload_n 1, 1) := by decide +kernel
theorem dX9_judgeHouse_25 : decode cX9_judgeHouse 25 = .ok (.invokevirtual 82, 3) := by decide +kernel
theorem dX9_judgeHouse_28 : decode cX9_judgeHouse 28 = .ok (.ifCond .eq 11, 3) := by decide +kernel
theorem dX9_judgeHouse_31 : decode cX9_judgeHouse 31 = .ok (.aload 4, 2) := by decide +kernel
theorem dX9_judgeHouse_33 : decode cX9_judgeHouse 33 = .ok (.iconst 2, 1) := by decide +kernel
theorem dX9_judgeHouse_34 : decode cX9_judgeHouse 34 = .ok (.iload_n 1, 1) := by decide +kernel
theorem dX9_judgeHouse_35 : decode cX9_judgeHouse 35 = .ok (.invokevirtual 85, 3) := by decide +kernel
theorem dX9_judgeHouse_38 : decode cX9_judgeHouse 38 = .ok (.ireturn, 1) := by decide +kernel
theorem dX9_judgeHouse_39 : decode cX9_judgeHouse 39 = .ok (.aload_n 0, 1) := by decide +kernel
theorem dX9_judgeHouse_40 : decode cX9_judgeHouse 40 = .ok (.getfield 12, 3) := by decide +kernel
theorem dX9_judgeHouse_43 : decode cX9_judgeHouse 43 = .ok (.iload_n 1, 1) := by decide +kernel
theorem dX9_judgeHouse_44 : decode cX9_judgeHouse 44 = .ok (.invokevirtual 91, 3) := by decide +kernel
theorem dX9_judgeHouse_47 : decode cX9_judgeHouse 47 = .ok (.iconst (-1), 1) := by decide +kernel
theorem dX9_judgeHouse_48 : decode cX9_judgeHouse 48 = .ok (.if_icmp .eq 18, 3) := by decide +kernel
theorem dX9_judgeHouse_51 : decode cX9_judgeHouse 51 = .ok (.aload 4, 2) := by decide +kernel
theorem dX9_judgeHouse_53 : decode cX9_judgeHouse 53 = .ok (.iconst 3, 1) := by decide +kernel
theorem dX9_judgeHouse_54 : decode cX9_judgeHouse 54 = .ok (.aload_n 0, 1) := by decide +kernel
theorem dX9_judgeHouse_55 : decode cX9_judgeHouse 55 = .ok (.getfield 12, 3) := by decide +kernel
theorem dX9_judgeHouse_58 : decode cX9_judgeHouse 58 = .ok (.iload_n 1, 1) := by decide +kernel
theorem dX9_judgeHouse_59 : decode cX9_judgeHouse 59 = .ok (.invokevirtual 91, 3) := by decide +kernel
theorem dX9_judgeHouse_62 : decode cX9_judgeHouse 62 = .ok (.invokevirtual 85, 3) := by decide +kernel
theorem dX9_judgeHouse_65 : decode cX9_judgeHouse 65 = .ok (.ireturn, 1) := by decide +kernel
theorem dX9_judgeHouse_66 : decode cX9_judgeHouse 66 = .ok (.aload_n 0, 1) := by decide +kernel
theorem dX9_judgeHouse_67 : decode cX9_judgeHouse 67 = .ok (.getfield 12, 3) := by decide +kernel
theorem dX9_judgeHouse_70 : decode cX9_judgeHouse 70 = .ok (.invokevirtual 95, 3) := by decide +kernel
theorem dX9_judgeHouse_73 : decode cX9_judgeHouse 73 = .ok (.ifCond .eq 14, 3) := by decide +kernel
theorem dX9_judgeHouse_76 : decode cX9_judgeHouse 76 = .ok (.aload 4, 2) := by decide +kernel
theorem dX9_judgeHouse_78 : decode cX9_judgeHouse 78 = .ok (.iconst 1, 1) := by decide +kernel
theorem dX9_judgeHouse_79 : decode cX9_judgeHouse 79 = .ok (.bipush 10, 2) := by decide +kernel
theorem dX9_judgeHouse_81 : decode cX9_judgeHouse 81 = .ok (.invokevirtual 85, 3) := by decide +kernel
theorem dX9_judgeHouse_84 : decode cX9_judgeHouse 84 = .ok (.goto 4, 3) := by decide +kernel
theorem dX9_judgeHouse_87 : decode cX9_judgeHouse 87 = .ok (.iconst 0, 1) := by decide +kernel
theorem dX9_judgeHouse_88 : decode cX9_judgeHouse 88 = .ok (.ireturn, 1) := by decide +kernel
theorem k_X9_judgeHouse : cardV yX9_judgeHouse (Cond.code yX9_judgeHouse cX9_judgeHouse 5 (some .int)) 4 := ⟨⟨qi_X9_judgeHouse, qv_X9_judgeHouse⟩, qc_X9_judgeHouse, qn_X9, by decide +kernel, by decide +kernel, by decide +kernel⟩
set_option maxHeartbeats 4000000 in
set_option maxRecDepth 100000 in
theorem c_X9_judgeHouse (l : Launch) (D : va_G) (g : Nat → ClassId) (q_this q_houses q_halls q_posts q_blocks q_kinds q_houses_cells q_houses_froms q_houses_tos q_houses_rings q_houses_pranks q_p4 : Nat) (p1 p2 p3 : Int32) (f_hour : Int32) (f_day : Int32) (f_prankHouse : Int32) (f_bells : Int32) (f_echoes : Int32) (f_bellPranks : Int32) (f_houses_size : Int32) (a_houses_cells : Nat → Int32) (a_blocks : Nat → Int32) (f_p4_number : Int32) (f_p4_detail : Int32) (o : Int32 × Int32 × Int32) (h : F_X9_judgeHouse p1 p2 p3 f_houses_size a_houses_cells a_blocks f_p4_number f_p4_detail = some o) : MW l yX9_judgeHouse (Cond.code yX9_judgeHouse cX9_judgeHouse 5 (some .int)) { frames := 2, cells := 0, slots := 0, locals := 44 } D g [.ref q_this, .int p1, .int p2, .int p3, .ref q_p4] [(q_this, .inr (9, [.ref q_houses, .ref q_halls, .ref q_posts, .ref q_blocks, .ref q_kinds, .int f_hour, .int f_day, .int f_prankHouse, .int f_bells, .int f_echoes, .int f_bellPranks])), (q_houses, .inr (3, [.int f_houses_size, .ref q_houses_cells, .ref q_houses_froms, .ref q_houses_tos, .ref q_houses_rings, .ref q_houses_pranks])), (q_houses_cells, .inl (g 0, 10, .inl a_houses_cells)), (q_blocks, .inl (g 0, 64, .inl a_blocks)), (q_p4, .inr (7, [.int f_p4_number, .int f_p4_detail]))] (some (.int o.1)) [(q_this, .inr (9, [.ref q_houses, .ref q_halls, .ref q_posts, .ref q_blocks, .ref q_kinds, .int f_hour, .int f_day, .int f_prankHouse, .int f_bells, .int f_echoes, .int f_bellPranks])), (q_houses, .inr (3, [.int f_houses_size, .ref q_houses_cells, .ref q_houses_froms, .ref q_houses_tos, .ref q_houses_rings, .ref q_houses_pranks])), (q_houses_cells, .inl (g 0, 10, .inl a_houses_cells)), (q_blocks, .inl (g 0, 64, .inl a_blocks)), (q_p4, .inr (7, [.int o.2.1, .int o.2.2]))] := by
  refine z_wr_start (by decide) (Nat.le_of_ble_eq_true rfl) ?_
  intro p e s m args below meth c Q A X hr hQ hA
  refine z_lv (lv' := [(0, .ref q_this), (1, .int p1), (2, .int p2), (3, .int p3), (4, .ref q_p4)]) rfl ?_
  refine z_iload_n X 1 dX9_judgeHouse_0 rfl rfl ?_
  obtain ⟨o1, e2, h⟩ := bnd_p h
  refine z_rdS (rest := []) X IW_P k_X0_isCell (c_X0_isCell l D g p1 o1 e2) ql_X9_X0_isCell dX9_judgeHouse_1 [] rfl rfl rfl ⟨Nat.le_of_ble_eq_true rfl, Nat.le_of_ble_eq_true rfl, rfl, rfl, Nat.le_of_ble_eq_true rfl, Nat.le_of_ble_eq_true rfl⟩ (Nat.le_of_ble_eq_true rfl) ?_
  refine z_if_eq X 21 dX9_judgeHouse_4 (by decide) h (fun _ h => ?_) (fun _ h => ?_)
  · refine z_iconst X (2 : Int32) dX9_judgeHouse_21 (by decide) ?_
    cases h
    exact z_iretW X hQ hA hr dX9_judgeHouse_22
  · refine z_iload_n X 2 dX9_judgeHouse_7 rfl rfl ?_
    obtain ⟨o3, e4, h⟩ := bnd_p h
    refine z_rdSN (rest := []) X IW_P k_X11_isHour (c_X11_isHour l D g p2 o3 e4) qlN_X9_X11_isHour dX9_judgeHouse_8 [] rfl rfl rfl ⟨Nat.le_of_ble_eq_true rfl, Nat.le_of_ble_eq_true rfl, rfl, rfl, Nat.le_of_ble_eq_true rfl, Nat.le_of_ble_eq_true rfl⟩ (Nat.le_of_ble_eq_true rfl) ?_
    refine z_if_eq X 21 dX9_judgeHouse_11 (by decide) h (fun _ h => ?_) (fun _ h => ?_)
    · refine z_iconst X (2 : Int32) dX9_judgeHouse_21 (by decide) ?_
      cases h
      exact z_iretW X hQ hA hr dX9_judgeHouse_22
    · refine z_iload_n X 3 dX9_judgeHouse_14 rfl rfl ?_
      obtain ⟨o5, e6, h⟩ := bnd_p h
      refine z_rdSN (rest := []) X IW_P k_X11_isHour (c_X11_isHour l D g p3 o5 e6) qlN_X9_X11_isHour dX9_judgeHouse_15 [] rfl rfl rfl ⟨Nat.le_of_ble_eq_true rfl, Nat.le_of_ble_eq_true rfl, rfl, rfl, Nat.le_of_ble_eq_true rfl, Nat.le_of_ble_eq_true rfl⟩ (Nat.le_of_ble_eq_true rfl) ?_
      refine z_if_ne X 23 dX9_judgeHouse_18 (by decide) h (fun _ h => ?_) (fun _ h => ?_)
      · refine z_iconst X (2 : Int32) dX9_judgeHouse_21 (by decide) ?_
        cases h
        exact z_iretW X hQ hA hr dX9_judgeHouse_22
      · refine z_aload_n X 0 dX9_judgeHouse_23 rfl rfl ?_
        refine z_iload_n X 1 dX9_judgeHouse_24 rfl rfl ?_
        obtain ⟨o7, e8, h⟩ := bnd_p h
        refine z_rdV (rest := []) (q0 := 0) (ci := 9) X IW_P k_X9_isBlocked (c_X9_isBlocked l D g q_this q_houses q_halls q_posts q_blocks q_kinds p1 f_hour f_day f_prankHouse f_bells f_echoes f_bellPranks a_blocks o7 e8) ql_X9_X9_isBlocked dX9_judgeHouse_25 [0, 3] rfl rfl rfl rfl rfl rfl ⟨Nat.le_of_ble_eq_true rfl, Nat.le_of_ble_eq_true rfl, rfl, rfl, Nat.le_of_ble_eq_true rfl, Nat.le_of_ble_eq_true rfl⟩ (Nat.le_of_ble_eq_true rfl) ?_
        refine z_if_eq X 39 dX9_judgeHouse_28 (by decide) h (fun _ h => ?_) (fun _ h => ?_)
        · refine z_aload_n X 0 dX9_judgeHouse_39 rfl rfl ?_
          refine z_get (q0 := 0) (k := 0) (ci := 9) X IW_P iw_X9 rfl qf_X9_X9_houses (by decide) dX9_judgeHouse_40 rfl rfl ?_
          refine z_iload_n X 1 dX9_judgeHouse_43 rfl rfl ?_
          obtain ⟨o9, e10, h⟩ := bnd_p h
          refine z_rdV (rest := []) (q0 := 1) (ci := 3) X IW_P k_X2_on (c_X2_on l D g q_houses q_houses_cells q_houses_froms q_houses_tos q_houses_rings q_houses_pranks p1 f_houses_size a_houses_cells o9 e10) ql_X9_X2_on dX9_judgeHouse_44 [1, 2] rfl rfl rfl rfl rfl rfl ⟨Nat.le_of_ble_eq_true rfl, Nat.le_of_ble_eq_true rfl, rfl, rfl, Nat.le_of_ble_eq_true rfl, Nat.le_of_ble_eq_true rfl⟩ (Nat.le_of_ble_eq_true rfl) ?_
          refine z_iconst X ((-1) : Int32) dX9_judgeHouse_47 (by decide) ?_
          refine z_icmp_eq X 66 dX9_judgeHouse_48 (by decide) h (fun _ h => ?_) (fun _ h => ?_)
          · refine z_aload_n X 0 dX9_judgeHouse_66 rfl rfl ?_
            refine z_get (q0 := 0) (k := 0) (ci := 9) X IW_P iw_X9 rfl qf_X9_X9_houses (by decide) dX9_judgeHouse_67 rfl rfl ?_
            obtain ⟨o11, e12, h⟩ := bnd_p h
            refine z_rdV (rest := []) (q0 := 1) (ci := 3) X IW_P k_X2_isFull (c_X2_isFull l D g q_houses q_houses_cells q_houses_froms q_houses_tos q_houses_rings q_houses_pranks f_houses_size o11 e12) ql_X9_X2_isFull dX9_judgeHouse_70 [1] rfl rfl rfl rfl rfl rfl ⟨Nat.le_of_ble_eq_true rfl, Nat.le_of_ble_eq_true rfl, rfl, rfl, Nat.le_of_ble_eq_true rfl, Nat.le_of_ble_eq_true rfl⟩ (Nat.le_of_ble_eq_true rfl) ?_
            refine z_if_eq X 87 dX9_judgeHouse_73 (by decide) h (fun _ h => ?_) (fun _ h => ?_)
            · refine z_iconst X (0 : Int32) dX9_judgeHouse_87 (by decide) ?_
              cases h
              exact z_iretW X hQ hA hr dX9_judgeHouse_88
            · refine z_aload X 4 dX9_judgeHouse_76 rfl ?_
              refine z_iconst X (1 : Int32) dX9_judgeHouse_78 (by decide) ?_
              refine z_bipush X (10 : Int32) dX9_judgeHouse_79 (by decide) ?_
              obtain ⟨o13, e14, h⟩ := bnd_p h
              refine z_wrV (rest := []) (q0 := 4) (ci := 7) (ws' := [(q_this, .inr (9, [.ref q_houses, .ref q_halls, .ref q_posts, .ref q_blocks, .ref q_kinds, .int f_hour, .int f_day, .int f_prankHouse, .int f_bells, .int f_echoes, .int f_bellPranks])), (q_houses, .inr (3, [.int f_houses_size, .ref q_houses_cells, .ref q_houses_froms, .ref q_houses_tos, .ref q_houses_rings, .ref q_houses_pranks])), (q_houses_cells, .inl (g 0, 10, .inl a_houses_cells)), (q_blocks, .inl (g 0, 64, .inl a_blocks)), (q_p4, .inr (7, [.int o13.2.1, .int o13.2.2]))]) (wr := [(q_this, .inr (9, [.ref q_houses, .ref q_halls, .ref q_posts, .ref q_blocks, .ref q_kinds, .int f_hour, .int f_day, .int f_prankHouse, .int f_bells, .int f_echoes, .int f_bellPranks])), (q_houses, .inr (3, [.int f_houses_size, .ref q_houses_cells, .ref q_houses_froms, .ref q_houses_tos, .ref q_houses_rings, .ref q_houses_pranks])), (q_houses_cells, .inl (g 0, 10, .inl a_houses_cells)), (q_blocks, .inl (g 0, 64, .inl a_blocks))]) (as := [q_this, q_houses, q_houses_cells, q_blocks, q_p4]) X k_X6_refuse (c_X6_refuse l D g q_p4 (1 : Int32) (10 : Int32) f_p4_number f_p4_detail o13 e14) ql_X9_X6_refuse dX9_judgeHouse_81 [4] [0, 1, 2, 3] ⟨rfl, rfl, rfl, rfl, rfl, rfl, rfl, rfl⟩ rfl rfl rfl rfl rfl ⟨Nat.le_of_ble_eq_true rfl, Nat.le_of_ble_eq_true rfl, rfl, rfl, Nat.le_of_ble_eq_true rfl, Nat.le_of_ble_eq_true rfl⟩ (Nat.le_of_ble_eq_true rfl) ?_
              refine z_goto X 88 dX9_judgeHouse_84 (by decide) ?_
              cases h
              exact z_iretW X hQ hA hr dX9_judgeHouse_88
          · refine z_aload X 4 dX9_judgeHouse_51 rfl ?_
            refine z_iconst X (3 : Int32) dX9_judgeHouse_53 (by decide) ?_
            refine z_aload_n X 0 dX9_judgeHouse_54 rfl rfl ?_
            refine z_get (q0 := 0) (k := 0) (ci := 9) X IW_P iw_X9 rfl qf_X9_X9_houses (by decide) dX9_judgeHouse_55 rfl rfl ?_
            refine z_iload_n X 1 dX9_judgeHouse_58 rfl rfl ?_
            obtain ⟨o15, e16, h⟩ := bnd_p h
            refine z_rdV (rest := [.int (3 : Int32), .ref q_p4]) (q0 := 1) (ci := 3) X IW_P k_X2_on (c_X2_on l D g q_houses q_houses_cells q_houses_froms q_houses_tos q_houses_rings q_houses_pranks p1 f_houses_size a_houses_cells o15 e16) ql_X9_X2_on dX9_judgeHouse_59 [1, 2] rfl rfl rfl rfl rfl rfl ⟨Nat.le_of_ble_eq_true rfl, Nat.le_of_ble_eq_true rfl, rfl, rfl, Nat.le_of_ble_eq_true rfl, Nat.le_of_ble_eq_true rfl⟩ (Nat.le_of_ble_eq_true rfl) ?_
            obtain ⟨o17, e18, h⟩ := bnd_p h
            refine z_wrV (rest := []) (q0 := 4) (ci := 7) (ws' := [(q_this, .inr (9, [.ref q_houses, .ref q_halls, .ref q_posts, .ref q_blocks, .ref q_kinds, .int f_hour, .int f_day, .int f_prankHouse, .int f_bells, .int f_echoes, .int f_bellPranks])), (q_houses, .inr (3, [.int f_houses_size, .ref q_houses_cells, .ref q_houses_froms, .ref q_houses_tos, .ref q_houses_rings, .ref q_houses_pranks])), (q_houses_cells, .inl (g 0, 10, .inl a_houses_cells)), (q_blocks, .inl (g 0, 64, .inl a_blocks)), (q_p4, .inr (7, [.int o17.2.1, .int o17.2.2]))]) (wr := [(q_this, .inr (9, [.ref q_houses, .ref q_halls, .ref q_posts, .ref q_blocks, .ref q_kinds, .int f_hour, .int f_day, .int f_prankHouse, .int f_bells, .int f_echoes, .int f_bellPranks])), (q_houses, .inr (3, [.int f_houses_size, .ref q_houses_cells, .ref q_houses_froms, .ref q_houses_tos, .ref q_houses_rings, .ref q_houses_pranks])), (q_houses_cells, .inl (g 0, 10, .inl a_houses_cells)), (q_blocks, .inl (g 0, 64, .inl a_blocks))]) (as := [q_this, q_houses, q_houses_cells, q_blocks, q_p4]) X k_X6_refuse (c_X6_refuse l D g q_p4 (3 : Int32) o15 f_p4_number f_p4_detail o17 e18) ql_X9_X6_refuse dX9_judgeHouse_62 [4] [0, 1, 2, 3] ⟨rfl, rfl, rfl, rfl, rfl, rfl, rfl, rfl⟩ rfl rfl rfl rfl rfl ⟨Nat.le_of_ble_eq_true rfl, Nat.le_of_ble_eq_true rfl, rfl, rfl, Nat.le_of_ble_eq_true rfl, Nat.le_of_ble_eq_true rfl⟩ (Nat.le_of_ble_eq_true rfl) ?_
            cases h
            exact z_iretW X hQ hA hr dX9_judgeHouse_65
        · refine z_aload X 4 dX9_judgeHouse_31 rfl ?_
          refine z_iconst X (2 : Int32) dX9_judgeHouse_33 (by decide) ?_
          refine z_iload_n X 1 dX9_judgeHouse_34 rfl rfl ?_
          obtain ⟨o19, e20, h⟩ := bnd_p h
          refine z_wrV (rest := []) (q0 := 4) (ci := 7) (ws' := [(q_this, .inr (9, [.ref q_houses, .ref q_halls, .ref q_posts, .ref q_blocks, .ref q_kinds, .int f_hour, .int f_day, .int f_prankHouse, .int f_bells, .int f_echoes, .int f_bellPranks])), (q_houses, .inr (3, [.int f_houses_size, .ref q_houses_cells, .ref q_houses_froms, .ref q_houses_tos, .ref q_houses_rings, .ref q_houses_pranks])), (q_houses_cells, .inl (g 0, 10, .inl a_houses_cells)), (q_blocks, .inl (g 0, 64, .inl a_blocks)), (q_p4, .inr (7, [.int o19.2.1, .int o19.2.2]))]) (wr := [(q_this, .inr (9, [.ref q_houses, .ref q_halls, .ref q_posts, .ref q_blocks, .ref q_kinds, .int f_hour, .int f_day, .int f_prankHouse, .int f_bells, .int f_echoes, .int f_bellPranks])), (q_houses, .inr (3, [.int f_houses_size, .ref q_houses_cells, .ref q_houses_froms, .ref q_houses_tos, .ref q_houses_rings, .ref q_houses_pranks])), (q_houses_cells, .inl (g 0, 10, .inl a_houses_cells)), (q_blocks, .inl (g 0, 64, .inl a_blocks))]) (as := [q_this, q_houses, q_houses_cells, q_blocks, q_p4]) X k_X6_refuse (c_X6_refuse l D g q_p4 (2 : Int32) p1 f_p4_number f_p4_detail o19 e20) ql_X9_X6_refuse dX9_judgeHouse_35 [4] [0, 1, 2, 3] ⟨rfl, rfl, rfl, rfl, rfl, rfl, rfl, rfl⟩ rfl rfl rfl rfl rfl ⟨Nat.le_of_ble_eq_true rfl, Nat.le_of_ble_eq_true rfl, rfl, rfl, Nat.le_of_ble_eq_true rfl, Nat.le_of_ble_eq_true rfl⟩ (Nat.le_of_ble_eq_true rfl) ?_
          cases h
          exact z_iretW X hQ hA hr dX9_judgeHouse_38

def F_X7_take (n_p0 : Nat) (n_p1 : Nat) (a_p1 : Nat → Int32) (a_p0 : Nat → Int32) : Option ((Nat → Int32)) :=
  grd (cpyok (0 : Int32) (0 : Int32) (if (Int32.ofNat n_p1) < (Int32.ofNat n_p0) then (Int32.ofNat n_p1) else (Int32.ofNat n_p0)) n_p1 n_p0) (some ((va_cpy a_p1 a_p0 (0 : Int32).toNatClampNeg (0 : Int32).toNatClampNeg (if (Int32.ofNat n_p1) < (Int32.ofNat n_p0) then (Int32.ofNat n_p1) else (Int32.ofNat n_p0)).toNatClampNeg)))
theorem dX7_take_0 : decode cX7_take 0 = .ok (.aload_n 1, 1) := by decide +kernel
theorem dX7_take_1 : decode cX7_take 1 = .ok (.iconst 0, 1) := by decide +kernel
theorem dX7_take_2 : decode cX7_take 2 = .ok (.aload_n 0, 1) := by decide +kernel
theorem dX7_take_3 : decode cX7_take 3 = .ok (.iconst 0, 1) := by decide +kernel
theorem dX7_take_4 : decode cX7_take 4 = .ok (.aload_n 0, 1) := by decide +kernel
theorem dX7_take_5 : decode cX7_take 5 = .ok (.arraylength, 1) := by decide +kernel
theorem dX7_take_6 : decode cX7_take 6 = .ok (.aload_n 1, 1) := by decide +kernel
theorem dX7_take_7 : decode cX7_take 7 = .ok (.arraylength, 1) := by decide +kernel
theorem dX7_take_8 : decode cX7_take 8 = .ok (.invokestatic 9, 3) := by decide +kernel
theorem dX7_take_11 : decode cX7_take 11 = .ok (.invokestatic 15, 3) := by decide +kernel
theorem dX7_take_14 : decode cX7_take 14 = .ok (.return_, 1) := by decide +kernel
theorem k_X7_take : cardS yX7_take (Cond.code yX7_take cX7_take 2 none) 2 := ⟨qs_X7_take, qc_X7_take, qn_X7, by decide +kernel, by decide +kernel, by decide +kernel⟩
set_option maxHeartbeats 4000000 in
set_option maxRecDepth 100000 in
theorem c_X7_take (l : Launch) (D : va_G) (g : Nat → ClassId) (q_p0 q_p1 : Nat) (n_p0 : Nat) (n_p1 : Nat) (a_p0 : Nat → Int32) (a_p1 : Nat → Int32) (o : (Nat → Int32)) (h : F_X7_take n_p0 n_p1 a_p1 a_p0 = some o) : MW l yX7_take (Cond.code yX7_take cX7_take 2 none) { frames := 1, cells := 0, slots := 0, locals := 40 } D g [.ref q_p0, .ref q_p1] [(q_p0, .inl (g 0, n_p0, .inl a_p0)), (q_p1, .inl (g 0, n_p1, .inl a_p1))] none [(q_p0, .inl (g 0, n_p0, .inl o)), (q_p1, .inl (g 0, n_p1, .inl a_p1))] := by
  refine z_wr_start (by decide) (Nat.le_of_ble_eq_true rfl) ?_
  intro p e s m args below meth c Q A X hr hQ hA
  refine z_lv (lv' := [(0, .ref q_p0), (1, .ref q_p1)]) rfl ?_
  refine z_aload_n X 1 dX7_take_0 rfl rfl ?_
  refine z_iconst X (0 : Int32) dX7_take_1 (by decide) ?_
  refine z_aload_n X 0 dX7_take_2 rfl rfl ?_
  refine z_iconst X (0 : Int32) dX7_take_3 (by decide) ?_
  refine z_aload_n X 0 dX7_take_4 rfl rfl ?_
  refine z_alen (q0 := 0) (v := Int32.ofNat n_p0) X IW_P 0 dX7_take_5 rfl rfl rfl ?_
  refine z_aload_n X 1 dX7_take_6 rfl rfl ?_
  refine z_alen (q0 := 1) (v := Int32.ofNat n_p1) X IW_P 0 dX7_take_7 rfl rfl rfl ?_
  refine z_mmin X ql_X7_mmin dX7_take_8 (Nat.le_of_ble_eq_true rfl) (Nat.le_of_ble_eq_true rfl) (Nat.le_of_ble_eq_true rfl) (Nat.le_of_ble_eq_true rfl) ?_
  refine z_copyi (q0 := 1) (q1 := 0) (ws' := [(q_p0, .inl (g 0, n_p0, .inl (va_cpy a_p1 a_p0 (0 : Int32).toNatClampNeg (0 : Int32).toNatClampNeg (if (Int32.ofNat n_p1) < (Int32.ofNat n_p0) then (Int32.ofNat n_p1) else (Int32.ofNat n_p0)).toNatClampNeg))), (q_p1, .inl (g 0, n_p1, .inl a_p1))]) X ql_X7_ac dX7_take_11 rfl rfl h rfl (Nat.le_of_ble_eq_true rfl) (Nat.le_of_ble_eq_true rfl) (fun h => ?_)
  cases h
  exact z_vretW X hQ hA hr dX7_take_14

def F_X2_take (f_p1_size : Int32) (a_p1_cells : Nat → Int32) (a_p1_froms : Nat → Int32) (a_p1_tos : Nat → Int32) (a_p1_rings : Nat → Int32) (a_p1_pranks : Nat → Int32) (f_size : Int32) (a_cells : Nat → Int32) (a_froms : Nat → Int32) (a_tos : Nat → Int32) (a_rings : Nat → Int32) (a_pranks : Nat → Int32) : Option (Int32 × (Nat → Int32) × (Nat → Int32) × (Nat → Int32) × (Nat → Int32) × (Nat → Int32)) :=
  bnd (F_X7_take 10 10 a_p1_cells a_cells) (fun o1 => bnd (F_X7_take 10 10 a_p1_froms a_froms) (fun o3 => bnd (F_X7_take 10 10 a_p1_tos a_tos) (fun o5 => bnd (F_X7_take 10 10 a_p1_rings a_rings) (fun o7 => bnd (F_X7_take 10 10 a_p1_pranks a_pranks) (fun o9 => some (f_p1_size, o1, o3, o5, o7, o9))))))
theorem dX2_take_0 : decode cX2_take 0 = .ok (.aload_n 0, 1) := by decide +kernel
theorem dX2_take_1 : decode cX2_take 1 = .ok (.aload_n 1, 1) := by decide +kernel
theorem dX2_take_2 : decode cX2_take 2 = .ok (.getfield 27, 3) := by decide +kernel
theorem dX2_take_5 : decode cX2_take 5 = .ok (.putfield 27, 3) := by decide +kernel
theorem dX2_take_8 : decode cX2_take 8 = .ok (.aload_n 0, 1) := by decide +kernel
theorem dX2_take_9 : decode cX2_take 9 = .ok (.getfield 9, 3) := by decide +kernel
theorem dX2_take_12 : decode cX2_take 12 = .ok (.aload_n 1, 1) := by decide +kernel
theorem dX2_take_13 : decode cX2_take 13 = .ok (.getfield 9, 3) := by decide +kernel
theorem dX2_take_16 : decode cX2_take 16 = .ok (.invokestatic 84, 3) := by decide +kernel
theorem dX2_take_19 : decode cX2_take 19 = .ok (.aload_n 0, 1) := by decide +kernel
theorem dX2_take_20 : decode cX2_take 20 = .ok (.getfield 15, 3) := by decide +kernel
theorem dX2_take_23 : decode cX2_take 23 = .ok (.aload_n 1, 1) := by decide +kernel
theorem dX2_take_24 : decode cX2_take 24 = .ok (.getfield 15, 3) := by decide +kernel
theorem dX2_take_27 : decode cX2_take 27 = .ok (.invokestatic 84, 3) := by decide +kernel
theorem dX2_take_30 : decode cX2_take 30 = .ok (.aload_n 0, 1) := by decide +kernel
theorem dX2_take_31 : decode cX2_take 31 = .ok (.getfield 18, 3) := by decide +kernel
theorem dX2_take_34 : decode cX2_take 34 = .ok (.aload_n 1, 1) := by decide +kernel
theorem dX2_take_35 : decode cX2_take 35 = .ok (.getfield 18, 3) := by decide +kernel
theorem dX2_take_38 : decode cX2_take 38 = .ok (.invokestatic 84, 3) := by decide +kernel
theorem dX2_take_41 : decode cX2_take 41 = .ok (.aload_n 0, 1) := by decide +kernel
theorem dX2_take_42 : decode cX2_take 42 = .ok (.getfield 21, 3) := by decide +kernel
theorem dX2_take_45 : decode cX2_take 45 = .ok (.aload_n 1, 1) := by decide +kernel
theorem dX2_take_46 : decode cX2_take 46 = .ok (.getfield 21, 3) := by decide +kernel
theorem dX2_take_49 : decode cX2_take 49 = .ok (.invokestatic 84, 3) := by decide +kernel
theorem dX2_take_52 : decode cX2_take 52 = .ok (.aload_n 0, 1) := by decide +kernel
theorem dX2_take_53 : decode cX2_take 53 = .ok (.getfield 24, 3) := by decide +kernel
theorem dX2_take_56 : decode cX2_take 56 = .ok (.aload_n 1, 1) := by decide +kernel
theorem dX2_take_57 : decode cX2_take 57 = .ok (.getfield 24, 3) := by decide +kernel
theorem dX2_take_60 : decode cX2_take 60 = .ok (.invokestatic 84, 3) := by decide +kernel
theorem dX2_take_63 : decode cX2_take 63 = .ok (.return_, 1) := by decide +kernel
theorem k_X2_take : cardV yX2_take (Cond.code yX2_take cX2_take 2 none) 1 := ⟨⟨qi_X2_take, qv_X2_take⟩, qc_X2_take, qn_X2, by decide +kernel, by decide +kernel, by decide +kernel⟩
set_option maxHeartbeats 4000000 in
set_option maxRecDepth 100000 in
theorem c_X2_take (l : Launch) (D : va_G) (g : Nat → ClassId) (q_this q_cells q_froms q_tos q_rings q_pranks q_p1 q_p1_cells q_p1_froms q_p1_tos q_p1_rings q_p1_pranks : Nat) (f_size : Int32) (a_cells : Nat → Int32) (a_froms : Nat → Int32) (a_tos : Nat → Int32) (a_rings : Nat → Int32) (a_pranks : Nat → Int32) (f_p1_size : Int32) (a_p1_cells : Nat → Int32) (a_p1_froms : Nat → Int32) (a_p1_tos : Nat → Int32) (a_p1_rings : Nat → Int32) (a_p1_pranks : Nat → Int32) (o : Int32 × (Nat → Int32) × (Nat → Int32) × (Nat → Int32) × (Nat → Int32) × (Nat → Int32)) (h : F_X2_take f_p1_size a_p1_cells a_p1_froms a_p1_tos a_p1_rings a_p1_pranks f_size a_cells a_froms a_tos a_rings a_pranks = some o) : MW l yX2_take (Cond.code yX2_take cX2_take 2 none) { frames := 2, cells := 0, slots := 0, locals := 61 } D g [.ref q_this, .ref q_p1] [(q_this, .inr (3, [.int f_size, .ref q_cells, .ref q_froms, .ref q_tos, .ref q_rings, .ref q_pranks])), (q_cells, .inl (g 0, 10, .inl a_cells)), (q_froms, .inl (g 0, 10, .inl a_froms)), (q_tos, .inl (g 0, 10, .inl a_tos)), (q_rings, .inl (g 0, 10, .inl a_rings)), (q_pranks, .inl (g 0, 10, .inl a_pranks)), (q_p1, .inr (3, [.int f_p1_size, .ref q_p1_cells, .ref q_p1_froms, .ref q_p1_tos, .ref q_p1_rings, .ref q_p1_pranks])), (q_p1_cells, .inl (g 0, 10, .inl a_p1_cells)), (q_p1_froms, .inl (g 0, 10, .inl a_p1_froms)), (q_p1_tos, .inl (g 0, 10, .inl a_p1_tos)), (q_p1_rings, .inl (g 0, 10, .inl a_p1_rings)), (q_p1_pranks, .inl (g 0, 10, .inl a_p1_pranks))] none [(q_this, .inr (3, [.int o.1, .ref q_cells, .ref q_froms, .ref q_tos, .ref q_rings, .ref q_pranks])), (q_cells, .inl (g 0, 10, .inl o.2.1)), (q_froms, .inl (g 0, 10, .inl o.2.2.1)), (q_tos, .inl (g 0, 10, .inl o.2.2.2.1)), (q_rings, .inl (g 0, 10, .inl o.2.2.2.2.1)), (q_pranks, .inl (g 0, 10, .inl o.2.2.2.2.2)), (q_p1, .inr (3, [.int f_p1_size, .ref q_p1_cells, .ref q_p1_froms, .ref q_p1_tos, .ref q_p1_rings, .ref q_p1_pranks])), (q_p1_cells, .inl (g 0, 10, .inl a_p1_cells)), (q_p1_froms, .inl (g 0, 10, .inl a_p1_froms)), (q_p1_tos, .inl (g 0, 10, .inl a_p1_tos)), (q_p1_rings, .inl (g 0, 10, .inl a_p1_rings)), (q_p1_pranks, .inl (g 0, 10, .inl a_p1_pranks))] := by
  refine z_wr_start (by decide) (Nat.le_of_ble_eq_true rfl) ?_
  intro p e s m args below meth c Q A X hr hQ hA
  refine z_lv (lv' := [(0, .ref q_this), (1, .ref q_p1)]) rfl ?_
  refine z_aload_n X 0 dX2_take_0 rfl rfl ?_
  refine z_aload_n X 1 dX2_take_1 rfl rfl ?_
  refine z_get (q0 := 6) (k := 0) (ci := 3) X IW_P iw_X2 rfl qf_X2_X2_size (by decide) dX2_take_2 rfl rfl ?_
  refine z_put (q0 := 0) (k := 0) (ci := 3) (ws' := [(q_this, .inr (3, [.int f_p1_size, .ref q_cells, .ref q_froms, .ref q_tos, .ref q_rings, .ref q_pranks])), (q_cells, .inl (g 0, 10, .inl a_cells)), (q_froms, .inl (g 0, 10, .inl a_froms)), (q_tos, .inl (g 0, 10, .inl a_tos)), (q_rings, .inl (g 0, 10, .inl a_rings)), (q_pranks, .inl (g 0, 10, .inl a_pranks)), (q_p1, .inr (3, [.int f_p1_size, .ref q_p1_cells, .ref q_p1_froms, .ref q_p1_tos, .ref q_p1_rings, .ref q_p1_pranks])), (q_p1_cells, .inl (g 0, 10, .inl a_p1_cells)), (q_p1_froms, .inl (g 0, 10, .inl a_p1_froms)), (q_p1_tos, .inl (g 0, 10, .inl a_p1_tos)), (q_p1_rings, .inl (g 0, 10, .inl a_p1_rings)), (q_p1_pranks, .inl (g 0, 10, .inl a_p1_pranks))]) X iw_X2 tyX2_ok nmX2 rfl qf_X2_X2_size (by decide) rfl rfl dX2_take_5 rfl rfl rfl (Nat.le_of_ble_eq_true rfl) rfl ?_
  refine z_aload_n X 0 dX2_take_8 rfl rfl ?_
  refine z_get (q0 := 0) (k := 1) (ci := 3) X IW_P iw_X2 rfl qf_X2_X2_cells (by decide) dX2_take_9 rfl rfl ?_
  refine z_aload_n X 1 dX2_take_12 rfl rfl ?_
  refine z_get (q0 := 6) (k := 1) (ci := 3) X IW_P iw_X2 rfl qf_X2_X2_cells (by decide) dX2_take_13 rfl rfl ?_
  obtain ⟨o1, e2, h⟩ := bnd_p h
  refine z_wrS (rest := []) (ws' := [(q_this, .inr (3, [.int f_p1_size, .ref q_cells, .ref q_froms, .ref q_tos, .ref q_rings, .ref q_pranks])), (q_cells, .inl (g 0, 10, .inl o1)), (q_froms, .inl (g 0, 10, .inl a_froms)), (q_tos, .inl (g 0, 10, .inl a_tos)), (q_rings, .inl (g 0, 10, .inl a_rings)), (q_pranks, .inl (g 0, 10, .inl a_pranks)), (q_p1, .inr (3, [.int f_p1_size, .ref q_p1_cells, .ref q_p1_froms, .ref q_p1_tos, .ref q_p1_rings, .ref q_p1_pranks])), (q_p1_cells, .inl (g 0, 10, .inl a_p1_cells)), (q_p1_froms, .inl (g 0, 10, .inl a_p1_froms)), (q_p1_tos, .inl (g 0, 10, .inl a_p1_tos)), (q_p1_rings, .inl (g 0, 10, .inl a_p1_rings)), (q_p1_pranks, .inl (g 0, 10, .inl a_p1_pranks))]) (wr := [(q_this, .inr (3, [.int f_p1_size, .ref q_cells, .ref q_froms, .ref q_tos, .ref q_rings, .ref q_pranks])), (q_froms, .inl (g 0, 10, .inl a_froms)), (q_tos, .inl (g 0, 10, .inl a_tos)), (q_rings, .inl (g 0, 10, .inl a_rings)), (q_pranks, .inl (g 0, 10, .inl a_pranks)), (q_p1, .inr (3, [.int f_p1_size, .ref q_p1_cells, .ref q_p1_froms, .ref q_p1_tos, .ref q_p1_rings, .ref q_p1_pranks])), (q_p1_froms, .inl (g 0, 10, .inl a_p1_froms)), (q_p1_tos, .inl (g 0, 10, .inl a_p1_tos)), (q_p1_rings, .inl (g 0, 10, .inl a_p1_rings)), (q_p1_pranks, .inl (g 0, 10, .inl a_p1_pranks))]) (as := [q_this, q_cells, q_froms, q_tos, q_rings, q_pranks, q_p1, q_p1_cells, q_p1_froms, q_p1_tos, q_p1_rings, q_p1_pranks]) X k_X7_take (c_X7_take l D g q_cells q_p1_cells 10 10 a_cells a_p1_cells o1 e2) ql_X2_X7_take dX2_take_16 [1, 7] [0, 2, 3, 4, 5, 6, 8, 9, 10, 11] ⟨rfl, rfl, rfl, rfl, rfl, rfl, rfl, rfl⟩ rfl rfl ⟨Nat.le_of_ble_eq_true rfl, Nat.le_of_ble_eq_true rfl, rfl, rfl, Nat.le_of_ble_eq_true rfl, Nat.le_of_ble_eq_true rfl⟩ (Nat.le_of_ble_eq_true rfl) ?_
  refine z_aload_n X 0 dX2_take_19 rfl rfl ?_
  refine z_get (q0 := 0) (k := 2) (ci := 3) X IW_P iw_X2 rfl qf_X2_X2_froms (by decide) dX2_take_20 rfl rfl ?_
  refine z_aload_n X 1 dX2_take_23 rfl rfl ?_
  refine z_get (q0 := 6) (k := 2) (ci := 3) X IW_P iw_X2 rfl qf_X2_X2_froms (by decide) dX2_take_24 rfl rfl ?_
  obtain ⟨o3, e4, h⟩ := bnd_p h
  refine z_wrS (rest := []) (ws' := [(q_this, .inr (3, [.int f_p1_size, .ref q_cells, .ref q_froms, .ref q_tos, .ref q_rings, .ref q_pranks])), (q_cells, .inl (g 0, 10, .inl o1)), (q_froms, .inl (g 0, 10, .inl o3)), (q_tos, .inl (g 0, 10, .inl a_tos)), (q_rings, .inl (g 0, 10, .inl a_rings)), (q_pranks, .inl (g 0, 10, .inl a_pranks)), (q_p1, .inr (3, [.int f_p1_size, .ref q_p1_cells, .ref q_p1_froms, .ref q_p1_tos, .ref q_p1_rings, .ref q_p1_pranks])), (q_p1_cells, .inl (g 0, 10, .inl a_p1_cells)), (q_p1_froms, .inl (g 0, 10, .inl a_p1_froms)), (q_p1_tos, .inl (g 0, 10, .inl a_p1_tos)), (q_p1_rings, .inl (g 0, 10, .inl a_p1_rings)), (q_p1_pranks, .inl (g 0, 10, .inl a_p1_pranks))]) (wr := [(q_this, .inr (3, [.int f_p1_size, .ref q_cells, .ref q_froms, .ref q_tos, .ref q_rings, .ref q_pranks])), (q_cells, .inl (g 0, 10, .inl o1)), (q_tos, .inl (g 0, 10, .inl a_tos)), (q_rings, .inl (g 0, 10, .inl a_rings)), (q_pranks, .inl (g 0, 10, .inl a_pranks)), (q_p1, .inr (3, [.int f_p1_size, .ref q_p1_cells, .ref q_p1_froms, .ref q_p1_tos, .ref q_p1_rings, .ref q_p1_pranks])), (q_p1_cells, .inl (g 0, 10, .inl a_p1_cells)), (q_p1_tos, .inl (g 0, 10, .inl a_p1_tos)), (q_p1_rings, .inl (g 0, 10, .inl a_p1_rings)), (q_p1_pranks, .inl (g 0, 10, .inl a_p1_pranks))]) (as := [q_this, q_cells, q_froms, q_tos, q_rings, q_pranks, q_p1, q_p1_cells, q_p1_froms, q_p1_tos, q_p1_rings, q_p1_pranks]) X k_X7_take (c_X7_take l D g q_froms q_p1_froms 10 10 a_froms a_p1_froms o3 e4) ql_X2_X7_take dX2_take_27 [2, 8] [0, 1, 3, 4, 5, 6, 7, 9, 10, 11] ⟨rfl, rfl, rfl, rfl, rfl, rfl, rfl, rfl⟩ rfl rfl ⟨Nat.le_of_ble_eq_true rfl, Nat.le_of_ble_eq_true rfl, rfl, rfl, Nat.le_of_ble_eq_true rfl, Nat.le_of_ble_eq_true rfl⟩ (Nat.le_of_ble_eq_true rfl) ?_
  refine z_aload_n X 0 dX2_take_30 rfl rfl ?_
  refine z_get (q0 := 0) (k := 3) (ci := 3) X IW_P iw_X2 rfl qf_X2_X2_tos (by decide) dX2_take_31 rfl rfl ?_
  refine z_aload_n X 1 dX2_take_34 rfl rfl ?_
  refine z_get (q0 := 6) (k := 3) (ci := 3) X IW_P iw_X2 rfl qf_X2_X2_tos (by decide) dX2_take_35 rfl rfl ?_
  obtain ⟨o5, e6, h⟩ := bnd_p h
  refine z_wrS (rest := []) (ws' := [(q_this, .inr (3, [.int f_p1_size, .ref q_cells, .ref q_froms, .ref q_tos, .ref q_rings, .ref q_pranks])), (q_cells, .inl (g 0, 10, .inl o1)), (q_froms, .inl (g 0, 10, .inl o3)), (q_tos, .inl (g 0, 10, .inl o5)), (q_rings, .inl (g 0, 10, .inl a_rings)), (q_pranks, .inl (g 0, 10, .inl a_pranks)), (q_p1, .inr (3, [.int f_p1_size, .ref q_p1_cells, .ref q_p1_froms, .ref q_p1_tos, .ref q_p1_rings, .ref q_p1_pranks])), (q_p1_cells, .inl (g 0, 10, .inl a_p1_cells)), (q_p1_froms, .inl (g 0, 10, .inl a_p1_froms)), (q_p1_tos, .inl (g 0, 10, .inl a_p1_tos)), (q_p1_rings, .inl (g 0, 10, .inl a_p1_rings)), (q_p1_pranks, .inl (g 0, 10, .inl a_p1_pranks))]) (wr := [(q_this, .inr (3, [.int f_p1_size, .ref q_cells, .ref q_froms, .ref q_tos, .ref q_rings, .ref q_pranks])), (q_cells, .inl (g 0, 10, .inl o1)), (q_froms, .inl (g 0, 10, .inl o3)), (q_rings, .inl (g 0, 10, .inl a_rings)), (q_pranks, .inl (g 0, 10, .inl a_pranks)), (q_p1, .inr (3, [.int f_p1_size, .ref q_p1_cells, .ref q_p1_froms, .ref q_p1_tos, .ref q_p1_rings, .ref q_p1_pranks])), (q_p1_cells, .inl (g 0, 10, .inl a_p1_cells)), (q_p1_froms, .inl (g 0, 10, .inl a_p1_froms)), (q_p1_rings, .inl (g 0, 10, .inl a_p1_rings)), (q_p1_pranks, .inl (g 0, 10, .inl a_p1_pranks))]) (as := [q_this, q_cells, q_froms, q_tos, q_rings, q_pranks, q_p1, q_p1_cells, q_p1_froms, q_p1_tos, q_p1_rings, q_p1_pranks]) X k_X7_take (c_X7_take l D g q_tos q_p1_tos 10 10 a_tos a_p1_tos o5 e6) ql_X2_X7_take dX2_take_38 [3, 9] [0, 1, 2, 4, 5, 6, 7, 8, 10, 11] ⟨rfl, rfl, rfl, rfl, rfl, rfl, rfl, rfl⟩ rfl rfl ⟨Nat.le_of_ble_eq_true rfl, Nat.le_of_ble_eq_true rfl, rfl, rfl, Nat.le_of_ble_eq_true rfl, Nat.le_of_ble_eq_true rfl⟩ (Nat.le_of_ble_eq_true rfl) ?_
  refine z_aload_n X 0 dX2_take_41 rfl rfl ?_
  refine z_get (q0 := 0) (k := 4) (ci := 3) X IW_P iw_X2 rfl qf_X2_X2_rings (by decide) dX2_take_42 rfl rfl ?_
  refine z_aload_n X 1 dX2_take_45 rfl rfl ?_
  refine z_get (q0 := 6) (k := 4) (ci := 3) X IW_P iw_X2 rfl qf_X2_X2_rings (by decide) dX2_take_46 rfl rfl ?_
  obtain ⟨o7, e8, h⟩ := bnd_p h
  refine z_wrS (rest := []) (ws' := [(q_this, .inr (3, [.int f_p1_size, .ref q_cells, .ref q_froms, .ref q_tos, .ref q_rings, .ref q_pranks])), (q_cells, .inl (g 0, 10, .inl o1)), (q_froms, .inl (g 0, 10, .inl o3)), (q_tos, .inl (g 0, 10, .inl o5)), (q_rings, .inl (g 0, 10, .inl o7)), (q_pranks, .inl (g 0, 10, .inl a_pranks)), (q_p1, .inr (3, [.int f_p1_size, .ref q_p1_cells, .ref q_p1_froms, .ref q_p1_tos, .ref q_p1_rings, .ref q_p1_pranks])), (q_p1_cells, .inl (g 0, 10, .inl a_p1_cells)), (q_p1_froms, .inl (g 0, 10, .inl a_p1_froms)), (q_p1_tos, .inl (g 0, 10, .inl a_p1_tos)), (q_p1_rings, .inl (g 0, 10, .inl a_p1_rings)), (q_p1_pranks, .inl (g 0, 10, .inl a_p1_pranks))]) (wr := [(q_this, .inr (3, [.int f_p1_size, .ref q_cells, .ref q_froms, .ref q_tos, .ref q_rings, .ref q_pranks])), (q_cells, .inl (g 0, 10, .inl o1)), (q_froms, .inl (g 0, 10, .inl o3)), (q_tos, .inl (g 0, 10, .inl o5)), (q_pranks, .inl (g 0, 10, .inl a_pranks)), (q_p1, .inr (3, [.int f_p1_size, .ref q_p1_cells, .ref q_p1_froms, .ref q_p1_tos, .ref q_p1_rings, .ref q_p1_pranks])), (q_p1_cells, .inl (g 0, 10, .inl a_p1_cells)), (q_p1_froms, .inl (g 0, 10, .inl a_p1_froms)), (q_p1_tos, .inl (g 0, 10, .inl a_p1_tos)), (q_p1_pranks, .inl (g 0, 10, .inl a_p1_pranks))]) (as := [q_this, q_cells, q_froms, q_tos, q_rings, q_pranks, q_p1, q_p1_cells, q_p1_froms, q_p1_tos, q_p1_rings, q_p1_pranks]) X k_X7_take (c_X7_take l D g q_rings q_p1_rings 10 10 a_rings a_p1_rings o7 e8) ql_X2_X7_take dX2_take_49 [4, 10] [0, 1, 2, 3, 5, 6, 7, 8, 9, 11] ⟨rfl, rfl, rfl, rfl, rfl, rfl, rfl, rfl⟩ rfl rfl ⟨Nat.le_of_ble_eq_true rfl, Nat.le_of_ble_eq_true rfl, rfl, rfl, Nat.le_of_ble_eq_true rfl, Nat.le_of_ble_eq_true rfl⟩ (Nat.le_of_ble_eq_true rfl) ?_
  refine z_aload_n X 0 dX2_take_52 rfl rfl ?_
  refine z_get (q0 := 0) (k := 5) (ci := 3) X IW_P iw_X2 rfl qf_X2_X2_pranks (by decide) dX2_take_53 rfl rfl ?_
  refine z_aload_n X 1 dX2_take_56 rfl rfl ?_
  refine z_get (q0 := 6) (k := 5) (ci := 3) X IW_P iw_X2 rfl qf_X2_X2_pranks (by decide) dX2_take_57 rfl rfl ?_
  obtain ⟨o9, e10, h⟩ := bnd_p h
  refine z_wrS (rest := []) (ws' := [(q_this, .inr (3, [.int f_p1_size, .ref q_cells, .ref q_froms, .ref q_tos, .ref q_rings, .ref q_pranks])), (q_cells, .inl (g 0, 10, .inl o1)), (q_froms, .inl (g 0, 10, .inl o3)), (q_tos, .inl (g 0, 10, .inl o5)), (q_rings, .inl (g 0, 10, .inl o7)), (q_pranks, .inl (g 0, 10, .inl o9)), (q_p1, .inr (3, [.int f_p1_size, .ref q_p1_cells, .ref q_p1_froms, .ref q_p1_tos, .ref q_p1_rings, .ref q_p1_pranks])), (q_p1_cells, .inl (g 0, 10, .inl a_p1_cells)), (q_p1_froms, .inl (g 0, 10, .inl a_p1_froms)), (q_p1_tos, .inl (g 0, 10, .inl a_p1_tos)), (q_p1_rings, .inl (g 0, 10, .inl a_p1_rings)), (q_p1_pranks, .inl (g 0, 10, .inl a_p1_pranks))]) (wr := [(q_this, .inr (3, [.int f_p1_size, .ref q_cells, .ref q_froms, .ref q_tos, .ref q_rings, .ref q_pranks])), (q_cells, .inl (g 0, 10, .inl o1)), (q_froms, .inl (g 0, 10, .inl o3)), (q_tos, .inl (g 0, 10, .inl o5)), (q_rings, .inl (g 0, 10, .inl o7)), (q_p1, .inr (3, [.int f_p1_size, .ref q_p1_cells, .ref q_p1_froms, .ref q_p1_tos, .ref q_p1_rings, .ref q_p1_pranks])), (q_p1_cells, .inl (g 0, 10, .inl a_p1_cells)), (q_p1_froms, .inl (g 0, 10, .inl a_p1_froms)), (q_p1_tos, .inl (g 0, 10, .inl a_p1_tos)), (q_p1_rings, .inl (g 0, 10, .inl a_p1_rings))]) (as := [q_this, q_cells, q_froms, q_tos, q_rings, q_pranks, q_p1, q_p1_cells, q_p1_froms, q_p1_tos, q_p1_rings, q_p1_pranks]) X k_X7_take (c_X7_take l D g q_pranks q_p1_pranks 10 10 a_pranks a_p1_pranks o9 e10) ql_X2_X7_take dX2_take_60 [5, 11] [0, 1, 2, 3, 4, 6, 7, 8, 9, 10] ⟨rfl, rfl, rfl, rfl, rfl, rfl, rfl, rfl⟩ rfl rfl ⟨Nat.le_of_ble_eq_true rfl, Nat.le_of_ble_eq_true rfl, rfl, rfl, Nat.le_of_ble_eq_true rfl, Nat.le_of_ble_eq_true rfl⟩ (Nat.le_of_ble_eq_true rfl) ?_
  cases h
  exact z_vretW X hQ hA hr dX2_take_63

def F_X1_take (f_p1_size : Int32) (a_p1_rows : Nat → Int32) (a_p1_firsts : Nat → Int32) (a_p1_lasts : Nat → Int32) (f_size : Int32) (a_rows : Nat → Int32) (a_firsts : Nat → Int32) (a_lasts : Nat → Int32) : Option (Int32 × (Nat → Int32) × (Nat → Int32) × (Nat → Int32)) :=
  bnd (F_X7_take 4 4 a_p1_rows a_rows) (fun o1 => bnd (F_X7_take 4 4 a_p1_firsts a_firsts) (fun o3 => bnd (F_X7_take 4 4 a_p1_lasts a_lasts) (fun o5 => some (f_p1_size, o1, o3, o5))))
theorem dX1_take_0 : decode cX1_take 0 = .ok (.aload_n 0, 1) := by decide +kernel
theorem dX1_take_1 : decode cX1_take 1 = .ok (.aload_n 1, 1) := by decide +kernel
theorem dX1_take_2 : decode cX1_take 2 = .ok (.getfield 21, 3) := by decide +kernel
theorem dX1_take_5 : decode cX1_take 5 = .ok (.putfield 21, 3) := by decide +kernel
theorem dX1_take_8 : decode cX1_take 8 = .ok (.aload_n 0, 1) := by decide +kernel
theorem dX1_take_9 : decode cX1_take 9 = .ok (.getfield 9, 3) := by decide +kernel
theorem dX1_take_12 : decode cX1_take 12 = .ok (.aload_n 1, 1) := by decide +kernel
theorem dX1_take_13 : decode cX1_take 13 = .ok (.getfield 9, 3) := by decide +kernel
theorem dX1_take_16 : decode cX1_take 16 = .ok (.invokestatic 52, 3) := by decide +kernel
theorem dX1_take_19 : decode cX1_take 19 = .ok (.aload_n 0, 1) := by decide +kernel
theorem dX1_take_20 : decode cX1_take 20 = .ok (.getfield 15, 3) := by decide +kernel
theorem dX1_take_23 : decode cX1_take 23 = .ok (.aload_n 1, 1) := by decide +kernel
theorem dX1_take_24 : decode cX1_take 24 = .ok (.getfield 15, 3) := by decide +kernel
theorem dX1_take_27 : decode cX1_take 27 = .ok (.invokestatic 52, 3) := by decide +kernel
theorem dX1_take_30 : decode cX1_take 30 = .ok (.aload_n 0, 1) := by decide +kernel
theorem dX1_take_31 : decode cX1_take 31 = .ok (.getfield 18, 3) := by decide +kernel
theorem dX1_take_34 : decode cX1_take 34 = .ok (.aload_n 1, 1) := by decide +kernel
theorem dX1_take_35 : decode cX1_take 35 = .ok (.getfield 18, 3) := by decide +kernel
theorem dX1_take_38 : decode cX1_take 38 = .ok (.invokestatic 52, 3) := by decide +kernel
theorem dX1_take_41 : decode cX1_take 41 = .ok (.return_, 1) := by decide +kernel
theorem k_X1_take : cardV yX1_take (Cond.code yX1_take cX1_take 2 none) 1 := ⟨⟨qi_X1_take, qv_X1_take⟩, qc_X1_take, qn_X1, by decide +kernel, by decide +kernel, by decide +kernel⟩
set_option maxHeartbeats 4000000 in
set_option maxRecDepth 100000 in
theorem c_X1_take (l : Launch) (D : va_G) (g : Nat → ClassId) (q_this q_rows q_firsts q_lasts q_p1 q_p1_rows q_p1_firsts q_p1_lasts : Nat) (f_size : Int32) (a_rows : Nat → Int32) (a_firsts : Nat → Int32) (a_lasts : Nat → Int32) (f_p1_size : Int32) (a_p1_rows : Nat → Int32) (a_p1_firsts : Nat → Int32) (a_p1_lasts : Nat → Int32) (o : Int32 × (Nat → Int32) × (Nat → Int32) × (Nat → Int32)) (h : F_X1_take f_p1_size a_p1_rows a_p1_firsts a_p1_lasts f_size a_rows a_firsts a_lasts = some o) : MW l yX1_take (Cond.code yX1_take cX1_take 2 none) { frames := 2, cells := 0, slots := 0, locals := 61 } D g [.ref q_this, .ref q_p1] [(q_this, .inr (2, [.int f_size, .ref q_rows, .ref q_firsts, .ref q_lasts])), (q_rows, .inl (g 0, 4, .inl a_rows)), (q_firsts, .inl (g 0, 4, .inl a_firsts)), (q_lasts, .inl (g 0, 4, .inl a_lasts)), (q_p1, .inr (2, [.int f_p1_size, .ref q_p1_rows, .ref q_p1_firsts, .ref q_p1_lasts])), (q_p1_rows, .inl (g 0, 4, .inl a_p1_rows)), (q_p1_firsts, .inl (g 0, 4, .inl a_p1_firsts)), (q_p1_lasts, .inl (g 0, 4, .inl a_p1_lasts))] none [(q_this, .inr (2, [.int o.1, .ref q_rows, .ref q_firsts, .ref q_lasts])), (q_rows, .inl (g 0, 4, .inl o.2.1)), (q_firsts, .inl (g 0, 4, .inl o.2.2.1)), (q_lasts, .inl (g 0, 4, .inl o.2.2.2)), (q_p1, .inr (2, [.int f_p1_size, .ref q_p1_rows, .ref q_p1_firsts, .ref q_p1_lasts])), (q_p1_rows, .inl (g 0, 4, .inl a_p1_rows)), (q_p1_firsts, .inl (g 0, 4, .inl a_p1_firsts)), (q_p1_lasts, .inl (g 0, 4, .inl a_p1_lasts))] := by
  refine z_wr_start (by decide) (Nat.le_of_ble_eq_true rfl) ?_
  intro p e s m args below meth c Q A X hr hQ hA
  refine z_lv (lv' := [(0, .ref q_this), (1, .ref q_p1)]) rfl ?_
  refine z_aload_n X 0 dX1_take_0 rfl rfl ?_
  refine z_aload_n X 1 dX1_take_1 rfl rfl ?_
  refine z_get (q0 := 4) (k := 0) (ci := 2) X IW_P iw_X1 rfl qf_X1_X1_size (by decide) dX1_take_2 rfl rfl ?_
  refine z_put (q0 := 0) (k := 0) (ci := 2) (ws' := [(q_this, .inr (2, [.int f_p1_size, .ref q_rows, .ref q_firsts, .ref q_lasts])), (q_rows, .inl (g 0, 4, .inl a_rows)), (q_firsts, .inl (g 0, 4, .inl a_firsts)), (q_lasts, .inl (g 0, 4, .inl a_lasts)), (q_p1, .inr (2, [.int f_p1_size, .ref q_p1_rows, .ref q_p1_firsts, .ref q_p1_lasts])), (q_p1_rows, .inl (g 0, 4, .inl a_p1_rows)), (q_p1_firsts, .inl (g 0, 4, .inl a_p1_firsts)), (q_p1_lasts, .inl (g 0, 4, .inl a_p1_lasts))]) X iw_X1 tyX1_ok nmX1 rfl qf_X1_X1_size (by decide) rfl rfl dX1_take_5 rfl rfl rfl (Nat.le_of_ble_eq_true rfl) rfl ?_
  refine z_aload_n X 0 dX1_take_8 rfl rfl ?_
  refine z_get (q0 := 0) (k := 1) (ci := 2) X IW_P iw_X1 rfl qf_X1_X1_rows (by decide) dX1_take_9 rfl rfl ?_
  refine z_aload_n X 1 dX1_take_12 rfl rfl ?_
  refine z_get (q0 := 4) (k := 1) (ci := 2) X IW_P iw_X1 rfl qf_X1_X1_rows (by decide) dX1_take_13 rfl rfl ?_
  obtain ⟨o1, e2, h⟩ := bnd_p h
  refine z_wrS (rest := []) (ws' := [(q_this, .inr (2, [.int f_p1_size, .ref q_rows, .ref q_firsts, .ref q_lasts])), (q_rows, .inl (g 0, 4, .inl o1)), (q_firsts, .inl (g 0, 4, .inl a_firsts)), (q_lasts, .inl (g 0, 4, .inl a_lasts)), (q_p1, .inr (2, [.int f_p1_size, .ref q_p1_rows, .ref q_p1_firsts, .ref q_p1_lasts])), (q_p1_rows, .inl (g 0, 4, .inl a_p1_rows)), (q_p1_firsts, .inl (g 0, 4, .inl a_p1_firsts)), (q_p1_lasts, .inl (g 0, 4, .inl a_p1_lasts))]) (wr := [(q_this, .inr (2, [.int f_p1_size, .ref q_rows, .ref q_firsts, .ref q_lasts])), (q_firsts, .inl (g 0, 4, .inl a_firsts)), (q_lasts, .inl (g 0, 4, .inl a_lasts)), (q_p1, .inr (2, [.int f_p1_size, .ref q_p1_rows, .ref q_p1_firsts, .ref q_p1_lasts])), (q_p1_firsts, .inl (g 0, 4, .inl a_p1_firsts)), (q_p1_lasts, .inl (g 0, 4, .inl a_p1_lasts))]) (as := [q_this, q_rows, q_firsts, q_lasts, q_p1, q_p1_rows, q_p1_firsts, q_p1_lasts]) X k_X7_take (c_X7_take l D g q_rows q_p1_rows 4 4 a_rows a_p1_rows o1 e2) ql_X1_X7_take dX1_take_16 [1, 5] [0, 2, 3, 4, 6, 7] ⟨rfl, rfl, rfl, rfl, rfl, rfl, rfl, rfl⟩ rfl rfl ⟨Nat.le_of_ble_eq_true rfl, Nat.le_of_ble_eq_true rfl, rfl, rfl, Nat.le_of_ble_eq_true rfl, Nat.le_of_ble_eq_true rfl⟩ (Nat.le_of_ble_eq_true rfl) ?_
  refine z_aload_n X 0 dX1_take_19 rfl rfl ?_
  refine z_get (q0 := 0) (k := 2) (ci := 2) X IW_P iw_X1 rfl qf_X1_X1_firsts (by decide) dX1_take_20 rfl rfl ?_
  refine z_aload_n X 1 dX1_take_23 rfl rfl ?_
  refine z_get (q0 := 4) (k := 2) (ci := 2) X IW_P iw_X1 rfl qf_X1_X1_firsts (by decide) dX1_take_24 rfl rfl ?_
  obtain ⟨o3, e4, h⟩ := bnd_p h
  refine z_wrS (rest := []) (ws' := [(q_this, .inr (2, [.int f_p1_size, .ref q_rows, .ref q_firsts, .ref q_lasts])), (q_rows, .inl (g 0, 4, .inl o1)), (q_firsts, .inl (g 0, 4, .inl o3)), (q_lasts, .inl (g 0, 4, .inl a_lasts)), (q_p1, .inr (2, [.int f_p1_size, .ref q_p1_rows, .ref q_p1_firsts, .ref q_p1_lasts])), (q_p1_rows, .inl (g 0, 4, .inl a_p1_rows)), (q_p1_firsts, .inl (g 0, 4, .inl a_p1_firsts)), (q_p1_lasts, .inl (g 0, 4, .inl a_p1_lasts))]) (wr := [(q_this, .inr (2, [.int f_p1_size, .ref q_rows, .ref q_firsts, .ref q_lasts])), (q_rows, .inl (g 0, 4, .inl o1)), (q_lasts, .inl (g 0, 4, .inl a_lasts)), (q_p1, .inr (2, [.int f_p1_size, .ref q_p1_rows, .ref q_p1_firsts, .ref q_p1_lasts])), (q_p1_rows, .inl (g 0, 4, .inl a_p1_rows)), (q_p1_lasts, .inl (g 0, 4, .inl a_p1_lasts))]) (as := [q_this, q_rows, q_firsts, q_lasts, q_p1, q_p1_rows, q_p1_firsts, q_p1_lasts]) X k_X7_take (c_X7_take l D g q_firsts q_p1_firsts 4 4 a_firsts a_p1_firsts o3 e4) ql_X1_X7_take dX1_take_27 [2, 6] [0, 1, 3, 4, 5, 7] ⟨rfl, rfl, rfl, rfl, rfl, rfl, rfl, rfl⟩ rfl rfl ⟨Nat.le_of_ble_eq_true rfl, Nat.le_of_ble_eq_true rfl, rfl, rfl, Nat.le_of_ble_eq_true rfl, Nat.le_of_ble_eq_true rfl⟩ (Nat.le_of_ble_eq_true rfl) ?_
  refine z_aload_n X 0 dX1_take_30 rfl rfl ?_
  refine z_get (q0 := 0) (k := 3) (ci := 2) X IW_P iw_X1 rfl qf_X1_X1_lasts (by decide) dX1_take_31 rfl rfl ?_
  refine z_aload_n X 1 dX1_take_34 rfl rfl ?_
  refine z_get (q0 := 4) (k := 3) (ci := 2) X IW_P iw_X1 rfl qf_X1_X1_lasts (by decide) dX1_take_35 rfl rfl ?_
  obtain ⟨o5, e6, h⟩ := bnd_p h
  refine z_wrS (rest := []) (ws' := [(q_this, .inr (2, [.int f_p1_size, .ref q_rows, .ref q_firsts, .ref q_lasts])), (q_rows, .inl (g 0, 4, .inl o1)), (q_firsts, .inl (g 0, 4, .inl o3)), (q_lasts, .inl (g 0, 4, .inl o5)), (q_p1, .inr (2, [.int f_p1_size, .ref q_p1_rows, .ref q_p1_firsts, .ref q_p1_lasts])), (q_p1_rows, .inl (g 0, 4, .inl a_p1_rows)), (q_p1_firsts, .inl (g 0, 4, .inl a_p1_firsts)), (q_p1_lasts, .inl (g 0, 4, .inl a_p1_lasts))]) (wr := [(q_this, .inr (2, [.int f_p1_size, .ref q_rows, .ref q_firsts, .ref q_lasts])), (q_rows, .inl (g 0, 4, .inl o1)), (q_firsts, .inl (g 0, 4, .inl o3)), (q_p1, .inr (2, [.int f_p1_size, .ref q_p1_rows, .ref q_p1_firsts, .ref q_p1_lasts])), (q_p1_rows, .inl (g 0, 4, .inl a_p1_rows)), (q_p1_firsts, .inl (g 0, 4, .inl a_p1_firsts))]) (as := [q_this, q_rows, q_firsts, q_lasts, q_p1, q_p1_rows, q_p1_firsts, q_p1_lasts]) X k_X7_take (c_X7_take l D g q_lasts q_p1_lasts 4 4 a_lasts a_p1_lasts o5 e6) ql_X1_X7_take dX1_take_38 [3, 7] [0, 1, 2, 4, 5, 6] ⟨rfl, rfl, rfl, rfl, rfl, rfl, rfl, rfl⟩ rfl rfl ⟨Nat.le_of_ble_eq_true rfl, Nat.le_of_ble_eq_true rfl, rfl, rfl, Nat.le_of_ble_eq_true rfl, Nat.le_of_ble_eq_true rfl⟩ (Nat.le_of_ble_eq_true rfl) ?_
  cases h
  exact z_vretW X hQ hA hr dX1_take_41

def F_X5_take (f_p1_size : Int32) (a_p1_cells : Nat → Int32) (a_p1_tolds : Nat → Int32) (f_size : Int32) (a_cells : Nat → Int32) (a_tolds : Nat → Int32) : Option (Int32 × (Nat → Int32) × (Nat → Int32)) :=
  bnd (F_X7_take 4 4 a_p1_cells a_cells) (fun o1 => bnd (F_X7_take 4 4 a_p1_tolds a_tolds) (fun o3 => some (f_p1_size, o1, o3)))
theorem dX5_take_0 : decode cX5_take 0 = .ok (.aload_n 0, 1) := by decide +kernel
theorem dX5_take_1 : decode cX5_take 1 = .ok (.aload_n 1, 1) := by decide +kernel
theorem dX5_take_2 : decode cX5_take 2 = .ok (.getfield 18, 3) := by decide +kernel
theorem dX5_take_5 : decode cX5_take 5 = .ok (.putfield 18, 3) := by decide +kernel
theorem dX5_take_8 : decode cX5_take 8 = .ok (.aload_n 0, 1) := by decide +kernel
theorem dX5_take_9 : decode cX5_take 9 = .ok (.getfield 9, 3) := by decide +kernel
theorem dX5_take_12 : decode cX5_take 12 = .ok (.aload_n 1, 1) := by decide +kernel
theorem dX5_take_13 : decode cX5_take 13 = .ok (.getfield 9, 3) := by decide +kernel
theorem dX5_take_16 : decode cX5_take 16 = .ok (.invokestatic 53, 3) := by decide +kernel
theorem dX5_take_19 : decode cX5_take 19 = .ok (.aload_n 0, 1) := by decide +kernel
theorem dX5_take_20 : decode cX5_take 20 = .ok (.getfield 15, 3) := by decide +kernel
theorem dX5_take_23 : decode cX5_take 23 = .ok (.aload_n 1, 1) := by decide +kernel
theorem dX5_take_24 : decode cX5_take 24 = .ok (.getfield 15, 3) := by decide +kernel
theorem dX5_take_27 : decode cX5_take 27 = .ok (.invokestatic 53, 3) := by decide +kernel
theorem dX5_take_30 : decode cX5_take 30 = .ok (.return_, 1) := by decide +kernel
theorem k_X5_take : cardV yX5_take (Cond.code yX5_take cX5_take 2 none) 1 := ⟨⟨qi_X5_take, qv_X5_take⟩, qc_X5_take, qn_X5, by decide +kernel, by decide +kernel, by decide +kernel⟩
set_option maxHeartbeats 4000000 in
set_option maxRecDepth 100000 in
theorem c_X5_take (l : Launch) (D : va_G) (g : Nat → ClassId) (q_this q_cells q_tolds q_p1 q_p1_cells q_p1_tolds : Nat) (f_size : Int32) (a_cells : Nat → Int32) (a_tolds : Nat → Int32) (f_p1_size : Int32) (a_p1_cells : Nat → Int32) (a_p1_tolds : Nat → Int32) (o : Int32 × (Nat → Int32) × (Nat → Int32)) (h : F_X5_take f_p1_size a_p1_cells a_p1_tolds f_size a_cells a_tolds = some o) : MW l yX5_take (Cond.code yX5_take cX5_take 2 none) { frames := 2, cells := 0, slots := 0, locals := 61 } D g [.ref q_this, .ref q_p1] [(q_this, .inr (6, [.int f_size, .ref q_cells, .ref q_tolds])), (q_cells, .inl (g 0, 4, .inl a_cells)), (q_tolds, .inl (g 0, 4, .inl a_tolds)), (q_p1, .inr (6, [.int f_p1_size, .ref q_p1_cells, .ref q_p1_tolds])), (q_p1_cells, .inl (g 0, 4, .inl a_p1_cells)), (q_p1_tolds, .inl (g 0, 4, .inl a_p1_tolds))] none [(q_this, .inr (6, [.int o.1, .ref q_cells, .ref q_tolds])), (q_cells, .inl (g 0, 4, .inl o.2.1)), (q_tolds, .inl (g 0, 4, .inl o.2.2)), (q_p1, .inr (6, [.int f_p1_size, .ref q_p1_cells, .ref q_p1_tolds])), (q_p1_cells, .inl (g 0, 4, .inl a_p1_cells)), (q_p1_tolds, .inl (g 0, 4, .inl a_p1_tolds))] := by
  refine z_wr_start (by decide) (Nat.le_of_ble_eq_true rfl) ?_
  intro p e s m args below meth c Q A X hr hQ hA
  refine z_lv (lv' := [(0, .ref q_this), (1, .ref q_p1)]) rfl ?_
  refine z_aload_n X 0 dX5_take_0 rfl rfl ?_
  refine z_aload_n X 1 dX5_take_1 rfl rfl ?_
  refine z_get (q0 := 3) (k := 0) (ci := 6) X IW_P iw_X5 rfl qf_X5_X5_size (by decide) dX5_take_2 rfl rfl ?_
  refine z_put (q0 := 0) (k := 0) (ci := 6) (ws' := [(q_this, .inr (6, [.int f_p1_size, .ref q_cells, .ref q_tolds])), (q_cells, .inl (g 0, 4, .inl a_cells)), (q_tolds, .inl (g 0, 4, .inl a_tolds)), (q_p1, .inr (6, [.int f_p1_size, .ref q_p1_cells, .ref q_p1_tolds])), (q_p1_cells, .inl (g 0, 4, .inl a_p1_cells)), (q_p1_tolds, .inl (g 0, 4, .inl a_p1_tolds))]) X iw_X5 tyX5_ok nmX5 rfl qf_X5_X5_size (by decide) rfl rfl dX5_take_5 rfl rfl rfl (Nat.le_of_ble_eq_true rfl) rfl ?_
  refine z_aload_n X 0 dX5_take_8 rfl rfl ?_
  refine z_get (q0 := 0) (k := 1) (ci := 6) X IW_P iw_X5 rfl qf_X5_X5_cells (by decide) dX5_take_9 rfl rfl ?_
  refine z_aload_n X 1 dX5_take_12 rfl rfl ?_
  refine z_get (q0 := 3) (k := 1) (ci := 6) X IW_P iw_X5 rfl qf_X5_X5_cells (by decide) dX5_take_13 rfl rfl ?_
  obtain ⟨o1, e2, h⟩ := bnd_p h
  refine z_wrS (rest := []) (ws' := [(q_this, .inr (6, [.int f_p1_size, .ref q_cells, .ref q_tolds])), (q_cells, .inl (g 0, 4, .inl o1)), (q_tolds, .inl (g 0, 4, .inl a_tolds)), (q_p1, .inr (6, [.int f_p1_size, .ref q_p1_cells, .ref q_p1_tolds])), (q_p1_cells, .inl (g 0, 4, .inl a_p1_cells)), (q_p1_tolds, .inl (g 0, 4, .inl a_p1_tolds))]) (wr := [(q_this, .inr (6, [.int f_p1_size, .ref q_cells, .ref q_tolds])), (q_tolds, .inl (g 0, 4, .inl a_tolds)), (q_p1, .inr (6, [.int f_p1_size, .ref q_p1_cells, .ref q_p1_tolds])), (q_p1_tolds, .inl (g 0, 4, .inl a_p1_tolds))]) (as := [q_this, q_cells, q_tolds, q_p1, q_p1_cells, q_p1_tolds]) X k_X7_take (c_X7_take l D g q_cells q_p1_cells 4 4 a_cells a_p1_cells o1 e2) ql_X5_X7_take dX5_take_16 [1, 4] [0, 2, 3, 5] ⟨rfl, rfl, rfl, rfl, rfl, rfl, rfl, rfl⟩ rfl rfl ⟨Nat.le_of_ble_eq_true rfl, Nat.le_of_ble_eq_true rfl, rfl, rfl, Nat.le_of_ble_eq_true rfl, Nat.le_of_ble_eq_true rfl⟩ (Nat.le_of_ble_eq_true rfl) ?_
  refine z_aload_n X 0 dX5_take_19 rfl rfl ?_
  refine z_get (q0 := 0) (k := 2) (ci := 6) X IW_P iw_X5 rfl qf_X5_X5_tolds (by decide) dX5_take_20 rfl rfl ?_
  refine z_aload_n X 1 dX5_take_23 rfl rfl ?_
  refine z_get (q0 := 3) (k := 2) (ci := 6) X IW_P iw_X5 rfl qf_X5_X5_tolds (by decide) dX5_take_24 rfl rfl ?_
  obtain ⟨o3, e4, h⟩ := bnd_p h
  refine z_wrS (rest := []) (ws' := [(q_this, .inr (6, [.int f_p1_size, .ref q_cells, .ref q_tolds])), (q_cells, .inl (g 0, 4, .inl o1)), (q_tolds, .inl (g 0, 4, .inl o3)), (q_p1, .inr (6, [.int f_p1_size, .ref q_p1_cells, .ref q_p1_tolds])), (q_p1_cells, .inl (g 0, 4, .inl a_p1_cells)), (q_p1_tolds, .inl (g 0, 4, .inl a_p1_tolds))]) (wr := [(q_this, .inr (6, [.int f_p1_size, .ref q_cells, .ref q_tolds])), (q_cells, .inl (g 0, 4, .inl o1)), (q_p1, .inr (6, [.int f_p1_size, .ref q_p1_cells, .ref q_p1_tolds])), (q_p1_cells, .inl (g 0, 4, .inl a_p1_cells))]) (as := [q_this, q_cells, q_tolds, q_p1, q_p1_cells, q_p1_tolds]) X k_X7_take (c_X7_take l D g q_tolds q_p1_tolds 4 4 a_tolds a_p1_tolds o3 e4) ql_X5_X7_take dX5_take_27 [2, 5] [0, 1, 3, 4] ⟨rfl, rfl, rfl, rfl, rfl, rfl, rfl, rfl⟩ rfl rfl ⟨Nat.le_of_ble_eq_true rfl, Nat.le_of_ble_eq_true rfl, rfl, rfl, Nat.le_of_ble_eq_true rfl, Nat.le_of_ble_eq_true rfl⟩ (Nat.le_of_ble_eq_true rfl) ?_
  cases h
  exact z_vretW X hQ hA hr dX5_take_30

def F_X9_take (f_p1_hour : Int32) (f_p1_day : Int32) (f_p1_prankHouse : Int32) (f_p1_bells : Int32) (f_p1_echoes : Int32) (f_p1_bellPranks : Int32) (f_p1_houses_size : Int32) (a_p1_houses_cells : Nat → Int32) (a_p1_houses_froms : Nat → Int32) (a_p1_houses_tos : Nat → Int32) (a_p1_houses_rings : Nat → Int32) (a_p1_houses_pranks : Nat → Int32) (f_p1_halls_size : Int32) (a_p1_halls_rows : Nat → Int32) (a_p1_halls_firsts : Nat → Int32) (a_p1_halls_lasts : Nat → Int32) (f_p1_posts_size : Int32) (a_p1_posts_cells : Nat → Int32) (a_p1_posts_tolds : Nat → Int32) (a_p1_blocks : Nat → Int32) (a_p1_kinds : Nat → Int32) (f_hour : Int32) (f_day : Int32) (f_prankHouse : Int32) (f_bells : Int32) (f_echoes : Int32) (f_bellPranks : Int32) (f_houses_size : Int32) (a_houses_cells : Nat → Int32) (a_houses_froms : Nat → Int32) (a_houses_tos : Nat → Int32) (a_houses_rings : Nat → Int32) (a_houses_pranks : Nat → Int32) (f_halls_size : Int32) (a_halls_rows : Nat → Int32) (a_halls_firsts : Nat → Int32) (a_halls_lasts : Nat → Int32) (f_posts_size : Int32) (a_posts_cells : Nat → Int32) (a_posts_tolds : Nat → Int32) (a_blocks : Nat → Int32) (a_kinds : Nat → Int32) : Option (Int32 × Int32 × Int32 × Int32 × Int32 × Int32 × Int32 × (Nat → Int32) × (Nat → Int32) × (Nat → Int32) × (Nat → Int32) × (Nat → Int32) × Int32 × (Nat → Int32) × (Nat → Int32) × (Nat → Int32) × Int32 × (Nat → Int32) × (Nat → Int32) × (Nat → Int32) × (Nat → Int32)) :=
  bnd (F_X2_take f_p1_houses_size a_p1_houses_cells a_p1_houses_froms a_p1_houses_tos a_p1_houses_rings a_p1_houses_pranks f_houses_size a_houses_cells a_houses_froms a_houses_tos a_houses_rings a_houses_pranks) (fun o1 => bnd (F_X1_take f_p1_halls_size a_p1_halls_rows a_p1_halls_firsts a_p1_halls_lasts f_halls_size a_halls_rows a_halls_firsts a_halls_lasts) (fun o3 => bnd (F_X5_take f_p1_posts_size a_p1_posts_cells a_p1_posts_tolds f_posts_size a_posts_cells a_posts_tolds) (fun o5 => bnd (F_X7_take 64 64 a_p1_blocks a_blocks) (fun o7 => bnd (F_X7_take 4 4 a_p1_kinds a_kinds) (fun o9 => some (f_p1_hour, f_p1_day, f_p1_prankHouse, f_p1_bells, f_p1_echoes, f_p1_bellPranks, o1.1, o1.2.1, o1.2.2.1, o1.2.2.2.1, o1.2.2.2.2.1, o1.2.2.2.2.2, o3.1, o3.2.1, o3.2.2.1, o3.2.2.2, o5.1, o5.2.1, o5.2.2, o7, o9))))))
theorem dX9_take_0 : decode cX9_take 0 = .ok (.aload_n 0, 1) := by decide +kernel
theorem dX9_take_1 : decode cX9_take 1 = .ok (.getfield 12, 3) := by decide +kernel
theorem dX9_take_4 : decode cX9_take 4 = .ok (.aload_n 1, 1) := by decide +kernel
theorem dX9_take_5 : decode cX9_take 5 = .ok (.getfield 12, 3) := by decide +kernel
theorem dX9_take_8 : decode cX9_take 8 = .ok (.invokevirtual 58, 3) := by decide +kernel
theorem dX9_take_11 : decode cX9_take 11 = .ok (.aload_n 0, 1) := by decide +kernel
theorem dX9_take_12 : decode cX9_take 12 = .ok (.getfield 21, 3) := by decide +kernel
theorem dX9_take_15 : decode cX9_take 15 = .ok (.aload_n 1, 1) := by decide +kernel
theorem dX9_take_16 : decode cX9_take 16 = .ok (.getfield 21, 3) := by decide +kernel
theorem dX9_take_19 : decode cX9_take 19 = .ok (.invokevirtual 62, 3) := by decide +kernel
theorem dX9_take_22 : decode cX9_take 22 = .ok (.aload_n 0, 1) := by decide +kernel
theorem dX9_take_23 : decode cX9_take 23 = .ok (.getfield 28, 3) := by decide +kernel
theorem dX9_take_26 : decode cX9_take 26 = .ok (.aload_n 1, 1) := by decide +kernel
theorem dX9_take_27 : decode cX9_take 27 = .ok (.getfield 28, 3) := by decide +kernel
theorem dX9_take_30 : decode cX9_take 30 = .ok (.invokevirtual 65, 3) := by decide +kernel
theorem dX9_take_33 : decode cX9_take 33 = .ok (.aload_n 0, 1) := by decide +kernel
theorem dX9_take_34 : decode cX9_take 34 = .ok (.getfield 32, 3) := by decide +kernel
theorem dX9_take_37 : decode cX9_take 37 = .ok (.aload_n 1, 1) := by decide +kernel
theorem dX9_take_38 : decode cX9_take 38 = .ok (.getfield 32, 3) := by decide +kernel
theorem dX9_take_41 : decode cX9_take 41 = .ok (.invokestatic 68, 3) := by decide +kernel
theorem dX9_take_44 : decode cX9_take 44 = .ok (.aload_n 0, 1) := by decide +kernel
theorem dX9_take_45 : decode cX9_take 45 = .ok (.getfield 36, 3) := by decide +kernel
theorem dX9_take_48 : decode cX9_take 48 = .ok (.aload_n 1, 1) := by decide +kernel
theorem dX9_take_49 : decode cX9_take 49 = .ok (.getfield 36, 3) := by decide +kernel
theorem dX9_take_52 : decode cX9_take 52 = .ok (.invokestatic 68, 3) := by decide +kernel
theorem dX9_take_55 : decode cX9_take 55 = .ok (.aload_n 0, 1) := by decide +kernel
theorem dX9_take_56 : decode cX9_take 56 = .ok (.aload_n 1, 1) := by decide +kernel
theorem dX9_take_57 : decode cX9_take 57 = .ok (.getfield 39, 3) := by decide +kernel
theorem dX9_take_60 : decode cX9_take 60 = .ok (.putfield 39, 3) := by decide +kernel
theorem dX9_take_63 : decode cX9_take 63 = .ok (.aload_n 0, 1) := by decide +kernel
theorem dX9_take_64 : decode cX9_take 64 = .ok (.aload_n 1, 1) := by decide +kernel
theorem dX9_take_65 : decode cX9_take 65 = .ok (.getfield 43, 3) := by decide +kernel
theorem dX9_take_68 : decode cX9_take 68 = .ok (.putfield 43, 3) := by decide +kernel
theorem dX9_take_71 : decode cX9_take 71 = .ok (.aload_n 0, 1) := by decide +kernel
theorem dX9_take_72 : decode cX9_take 72 = .ok (.aload_n 1, 1) := by decide +kernel
theorem dX9_take_73 : decode cX9_take 73 = .ok (.getfield 46, 3) := by decide +kernel
theorem dX9_take_76 : decode cX9_take 76 = .ok (.putfield 46, 3) := by decide +kernel
theorem dX9_take_79 : decode cX9_take 79 = .ok (.aload_n 0, 1) := by decide +kernel
theorem dX9_take_80 : decode cX9_take 80 = .ok (.aload_n 1, 1) := by decide +kernel
theorem dX9_take_81 : decode cX9_take 81 = .ok (.getfield 49, 3) := by decide +kernel
theorem dX9_take_84 : decode cX9_take 84 = .ok (.putfield 49, 3) := by decide +kernel
theorem dX9_take_87 : decode cX9_take 87 = .ok (.aload_n 0, 1) := by decide +kernel
theorem dX9_take_88 : decode cX9_take 88 = .ok (.aload_n 1, 1) := by decide +kernel
theorem dX9_take_89 : decode cX9_take 89 = .ok (.getfield 52, 3) := by decide +kernel
theorem dX9_take_92 : decode cX9_take 92 = .ok (.putfield 52, 3) := by decide +kernel
theorem dX9_take_95 : decode cX9_take 95 = .ok (.aload_n 0, 1) := by decide +kernel
theorem dX9_take_96 : decode cX9_take 96 = .ok (.aload_n 1, 1) := by decide +kernel
theorem dX9_take_97 : decode cX9_take 97 = .ok (.getfield 55, 3) := by decide +kernel
theorem dX9_take_100 : decode cX9_take 100 = .ok (.putfield 55, 3) := by decide +kernel
theorem dX9_take_103 : decode cX9_take 103 = .ok (.return_, 1) := by decide +kernel
theorem k_X9_take : cardV yX9_take (Cond.code yX9_take cX9_take 2 none) 1 := ⟨⟨qi_X9_take, qv_X9_take⟩, qc_X9_take, qn_X9, by decide +kernel, by decide +kernel, by decide +kernel⟩
set_option maxHeartbeats 4000000 in
set_option maxRecDepth 100000 in
theorem c_X9_take (l : Launch) (D : va_G) (g : Nat → ClassId) (q_this q_houses q_halls q_posts q_blocks q_kinds q_houses_cells q_houses_froms q_houses_tos q_houses_rings q_houses_pranks q_halls_rows q_halls_firsts q_halls_lasts q_posts_cells q_posts_tolds q_p1 q_p1_houses q_p1_halls q_p1_posts q_p1_blocks q_p1_kinds q_p1_houses_cells q_p1_houses_froms q_p1_houses_tos q_p1_houses_rings q_p1_houses_pranks q_p1_halls_rows q_p1_halls_firsts q_p1_halls_lasts q_p1_posts_cells q_p1_posts_tolds : Nat) (f_hour : Int32) (f_day : Int32) (f_prankHouse : Int32) (f_bells : Int32) (f_echoes : Int32) (f_bellPranks : Int32) (f_houses_size : Int32) (a_houses_cells : Nat → Int32) (a_houses_froms : Nat → Int32) (a_houses_tos : Nat → Int32) (a_houses_rings : Nat → Int32) (a_houses_pranks : Nat → Int32) (f_halls_size : Int32) (a_halls_rows : Nat → Int32) (a_halls_firsts : Nat → Int32) (a_halls_lasts : Nat → Int32) (f_posts_size : Int32) (a_posts_cells : Nat → Int32) (a_posts_tolds : Nat → Int32) (a_blocks : Nat → Int32) (a_kinds : Nat → Int32) (f_p1_hour : Int32) (f_p1_day : Int32) (f_p1_prankHouse : Int32) (f_p1_bells : Int32) (f_p1_echoes : Int32) (f_p1_bellPranks : Int32) (f_p1_houses_size : Int32) (a_p1_houses_cells : Nat → Int32) (a_p1_houses_froms : Nat → Int32) (a_p1_houses_tos : Nat → Int32) (a_p1_houses_rings : Nat → Int32) (a_p1_houses_pranks : Nat → Int32) (f_p1_halls_size : Int32) (a_p1_halls_rows : Nat → Int32) (a_p1_halls_firsts : Nat → Int32) (a_p1_halls_lasts : Nat → Int32) (f_p1_posts_size : Int32) (a_p1_posts_cells : Nat → Int32) (a_p1_posts_tolds : Nat → Int32) (a_p1_blocks : Nat → Int32) (a_p1_kinds : Nat → Int32) (o : Int32 × Int32 × Int32 × Int32 × Int32 × Int32 × Int32 × (Nat → Int32) × (Nat → Int32) × (Nat → Int32) × (Nat → Int32) × (Nat → Int32) × Int32 × (Nat → Int32) × (Nat → Int32) × (Nat → Int32) × Int32 × (Nat → Int32) × (Nat → Int32) × (Nat → Int32) × (Nat → Int32)) (h : F_X9_take f_p1_hour f_p1_day f_p1_prankHouse f_p1_bells f_p1_echoes f_p1_bellPranks f_p1_houses_size a_p1_houses_cells a_p1_houses_froms a_p1_houses_tos a_p1_houses_rings a_p1_houses_pranks f_p1_halls_size a_p1_halls_rows a_p1_halls_firsts a_p1_halls_lasts f_p1_posts_size a_p1_posts_cells a_p1_posts_tolds a_p1_blocks a_p1_kinds f_hour f_day f_prankHouse f_bells f_echoes f_bellPranks f_houses_size a_houses_cells a_houses_froms a_houses_tos a_houses_rings a_houses_pranks f_halls_size a_halls_rows a_halls_firsts a_halls_lasts f_posts_size a_posts_cells a_posts_tolds a_blocks a_kinds = some o) : MW l yX9_take (Cond.code yX9_take cX9_take 2 none) { frames := 3, cells := 0, slots := 0, locals := 82 } D g [.ref q_this, .ref q_p1] [(q_this, .inr (9, [.ref q_houses, .ref q_halls, .ref q_posts, .ref q_blocks, .ref q_kinds, .int f_hour, .int f_day, .int f_prankHouse, .int f_bells, .int f_echoes, .int f_bellPranks])), (q_houses, .inr (3, [.int f_houses_size, .ref q_houses_cells, .ref q_houses_froms, .ref q_houses_tos, .ref q_houses_rings, .ref q_houses_pranks])), (q_houses_cells, .inl (g 0, 10, .inl a_houses_cells)), (q_houses_froms, .inl (g 0, 10, .inl a_houses_froms)), (q_houses_tos, .inl (g 0, 10, .inl a_houses_tos)), (q_houses_rings, .inl (g 0, 10, .inl a_houses_rings)), (q_houses_pranks, .inl (g 0, 10, .inl a_houses_pranks)), (q_halls, .inr (2, [.int f_halls_size, .ref q_halls_rows, .ref q_halls_firsts, .ref q_halls_lasts])), (q_halls_rows, .inl (g 0, 4, .inl a_halls_rows)), (q_halls_firsts, .inl (g 0, 4, .inl a_halls_firsts)), (q_halls_lasts, .inl (g 0, 4, .inl a_halls_lasts)), (q_posts, .inr (6, [.int f_posts_size, .ref q_posts_cells, .ref q_posts_tolds])), (q_posts_cells, .inl (g 0, 4, .inl a_posts_cells)), (q_posts_tolds, .inl (g 0, 4, .inl a_posts_tolds)), (q_blocks, .inl (g 0, 64, .inl a_blocks)), (q_kinds, .inl (g 0, 4, .inl a_kinds)), (q_p1, .inr (9, [.ref q_p1_houses, .ref q_p1_halls, .ref q_p1_posts, .ref q_p1_blocks, .ref q_p1_kinds, .int f_p1_hour, .int f_p1_day, .int f_p1_prankHouse, .int f_p1_bells, .int f_p1_echoes, .int f_p1_bellPranks])), (q_p1_houses, .inr (3, [.int f_p1_houses_size, .ref q_p1_houses_cells, .ref q_p1_houses_froms, .ref q_p1_houses_tos, .ref q_p1_houses_rings, .ref q_p1_houses_pranks])), (q_p1_houses_cells, .inl (g 0, 10, .inl a_p1_houses_cells)), (q_p1_houses_froms, .inl (g 0, 10, .inl a_p1_houses_froms)), (q_p1_houses_tos, .inl (g 0, 10, .inl a_p1_houses_tos)), (q_p1_houses_rings, .inl (g 0, 10, .inl a_p1_houses_rings)), (q_p1_houses_pranks, .inl (g 0, 10, .inl a_p1_houses_pranks)), (q_p1_halls, .inr (2, [.int f_p1_halls_size, .ref q_p1_halls_rows, .ref q_p1_halls_firsts, .ref q_p1_halls_lasts])), (q_p1_halls_rows, .inl (g 0, 4, .inl a_p1_halls_rows)), (q_p1_halls_firsts, .inl (g 0, 4, .inl a_p1_halls_firsts)), (q_p1_halls_lasts, .inl (g 0, 4, .inl a_p1_halls_lasts)), (q_p1_posts, .inr (6, [.int f_p1_posts_size, .ref q_p1_posts_cells, .ref q_p1_posts_tolds])), (q_p1_posts_cells, .inl (g 0, 4, .inl a_p1_posts_cells)), (q_p1_posts_tolds, .inl (g 0, 4, .inl a_p1_posts_tolds)), (q_p1_blocks, .inl (g 0, 64, .inl a_p1_blocks)), (q_p1_kinds, .inl (g 0, 4, .inl a_p1_kinds))] none [(q_this, .inr (9, [.ref q_houses, .ref q_halls, .ref q_posts, .ref q_blocks, .ref q_kinds, .int o.1, .int o.2.1, .int o.2.2.1, .int o.2.2.2.1, .int o.2.2.2.2.1, .int o.2.2.2.2.2.1])), (q_houses, .inr (3, [.int o.2.2.2.2.2.2.1, .ref q_houses_cells, .ref q_houses_froms, .ref q_houses_tos, .ref q_houses_rings, .ref q_houses_pranks])), (q_houses_cells, .inl (g 0, 10, .inl o.2.2.2.2.2.2.2.1)), (q_houses_froms, .inl (g 0, 10, .inl o.2.2.2.2.2.2.2.2.1)), (q_houses_tos, .inl (g 0, 10, .inl o.2.2.2.2.2.2.2.2.2.1)), (q_houses_rings, .inl (g 0, 10, .inl o.2.2.2.2.2.2.2.2.2.2.1)), (q_houses_pranks, .inl (g 0, 10, .inl o.2.2.2.2.2.2.2.2.2.2.2.1)), (q_halls, .inr (2, [.int o.2.2.2.2.2.2.2.2.2.2.2.2.1, .ref q_halls_rows, .ref q_halls_firsts, .ref q_halls_lasts])), (q_halls_rows, .inl (g 0, 4, .inl o.2.2.2.2.2.2.2.2.2.2.2.2.2.1)), (q_halls_firsts, .inl (g 0, 4, .inl o.2.2.2.2.2.2.2.2.2.2.2.2.2.2.1)), (q_halls_lasts, .inl (g 0, 4, .inl o.2.2.2.2.2.2.2.2.2.2.2.2.2.2.2.1)), (q_posts, .inr (6, [.int o.2.2.2.2.2.2.2.2.2.2.2.2.2.2.2.2.1, .ref q_posts_cells, .ref q_posts_tolds])), (q_posts_cells, .inl (g 0, 4, .inl o.2.2.2.2.2.2.2.2.2.2.2.2.2.2.2.2.2.1)), (q_posts_tolds, .inl (g 0, 4, .inl o.2.2.2.2.2.2.2.2.2.2.2.2.2.2.2.2.2.2.1)), (q_blocks, .inl (g 0, 64, .inl o.2.2.2.2.2.2.2.2.2.2.2.2.2.2.2.2.2.2.2.1)), (q_kinds, .inl (g 0, 4, .inl o.2.2.2.2.2.2.2.2.2.2.2.2.2.2.2.2.2.2.2.2)), (q_p1, .inr (9, [.ref q_p1_houses, .ref q_p1_halls, .ref q_p1_posts, .ref q_p1_blocks, .ref q_p1_kinds, .int f_p1_hour, .int f_p1_day, .int f_p1_prankHouse, .int f_p1_bells, .int f_p1_echoes, .int f_p1_bellPranks])), (q_p1_houses, .inr (3, [.int f_p1_houses_size, .ref q_p1_houses_cells, .ref q_p1_houses_froms, .ref q_p1_houses_tos, .ref q_p1_houses_rings, .ref q_p1_houses_pranks])), (q_p1_houses_cells, .inl (g 0, 10, .inl a_p1_houses_cells)), (q_p1_houses_froms, .inl (g 0, 10, .inl a_p1_houses_froms)), (q_p1_houses_tos, .inl (g 0, 10, .inl a_p1_houses_tos)), (q_p1_houses_rings, .inl (g 0, 10, .inl a_p1_houses_rings)), (q_p1_houses_pranks, .inl (g 0, 10, .inl a_p1_houses_pranks)), (q_p1_halls, .inr (2, [.int f_p1_halls_size, .ref q_p1_halls_rows, .ref q_p1_halls_firsts, .ref q_p1_halls_lasts])), (q_p1_halls_rows, .inl (g 0, 4, .inl a_p1_halls_rows)), (q_p1_halls_firsts, .inl (g 0, 4, .inl a_p1_halls_firsts)), (q_p1_halls_lasts, .inl (g 0, 4, .inl a_p1_halls_lasts)), (q_p1_posts, .inr (6, [.int f_p1_posts_size, .ref q_p1_posts_cells, .ref q_p1_posts_tolds])), (q_p1_posts_cells, .inl (g 0, 4, .inl a_p1_posts_cells)), (q_p1_posts_tolds, .inl (g 0, 4, .inl a_p1_posts_tolds)), (q_p1_blocks, .inl (g 0, 64, .inl a_p1_blocks)), (q_p1_kinds, .inl (g 0, 4, .inl a_p1_kinds))] := by
  refine z_wr_start (by decide) (Nat.le_of_ble_eq_true rfl) ?_
  intro p e s m args below meth c Q A X hr hQ hA
  refine z_lv (lv' := [(0, .ref q_this), (1, .ref q_p1)]) rfl ?_
  refine z_aload_n X 0 dX9_take_0 rfl rfl ?_
  refine z_get (q0 := 0) (k := 0) (ci := 9) X IW_P iw_X9 rfl qf_X9_X9_houses (by decide) dX9_take_1 rfl rfl ?_
  refine z_aload_n X 1 dX9_take_4 rfl rfl ?_
  refine z_get (q0 := 16) (k := 0) (ci := 9) X IW_P iw_X9 rfl qf_X9_X9_houses (by decide) dX9_take_5 rfl rfl ?_
  obtain ⟨o1, e2, h⟩ := bnd_p h
  refine z_wrV (rest := []) (q0 := 1) (ci := 3) (ws' := [(q_this, .inr (9, [.ref q_houses, .ref q_halls, .ref q_posts, .ref q_blocks, .ref q_kinds, .int f_hour, .int f_day, .int f_prankHouse, .int f_bells, .int f_echoes, .int f_bellPranks])), (q_houses, .inr (3, [.int o1.1, .ref q_houses_cells, .ref q_houses_froms, .ref q_houses_tos, .ref q_houses_rings, .ref q_houses_pranks])), (q_houses_cells, .inl (g 0, 10, .inl o1.2.1)), (q_houses_froms, .inl (g 0, 10, .inl o1.2.2.1)), (q_houses_tos, .inl (g 0, 10, .inl o1.2.2.2.1)), (q_houses_rings, .inl (g 0, 10, .inl o1.2.2.2.2.1)), (q_houses_pranks, .inl (g 0, 10, .inl o1.2.2.2.2.2)), (q_halls, .inr (2, [.int f_halls_size, .ref q_halls_rows, .ref q_halls_firsts, .ref q_halls_lasts])), (q_halls_rows, .inl (g 0, 4, .inl a_halls_rows)), (q_halls_firsts, .inl (g 0, 4, .inl a_halls_firsts)), (q_halls_lasts, .inl (g 0, 4, .inl a_halls_lasts)), (q_posts, .inr (6, [.int f_posts_size, .ref q_posts_cells, .ref q_posts_tolds])), (q_posts_cells, .inl (g 0, 4, .inl a_posts_cells)), (q_posts_tolds, .inl (g 0, 4, .inl a_posts_tolds)), (q_blocks, .inl (g 0, 64, .inl a_blocks)), (q_kinds, .inl (g 0, 4, .inl a_kinds)), (q_p1, .inr (9, [.ref q_p1_houses, .ref q_p1_halls, .ref q_p1_posts, .ref q_p1_blocks, .ref q_p1_kinds, .int f_p1_hour, .int f_p1_day, .int f_p1_prankHouse, .int f_p1_bells, .int f_p1_echoes, .int f_p1_bellPranks])), (q_p1_houses, .inr (3, [.int f_p1_houses_size, .ref q_p1_houses_cells, .ref q_p1_houses_froms, .ref q_p1_houses_tos, .ref q_p1_houses_rings, .ref q_p1_houses_pranks])), (q_p1_houses_cells, .inl (g 0, 10, .inl a_p1_houses_cells)), (q_p1_houses_froms, .inl (g 0, 10, .inl a_p1_houses_froms)), (q_p1_houses_tos, .inl (g 0, 10, .inl a_p1_houses_tos)), (q_p1_houses_rings, .inl (g 0, 10, .inl a_p1_houses_rings)), (q_p1_houses_pranks, .inl (g 0, 10, .inl a_p1_houses_pranks)), (q_p1_halls, .inr (2, [.int f_p1_halls_size, .ref q_p1_halls_rows, .ref q_p1_halls_firsts, .ref q_p1_halls_lasts])), (q_p1_halls_rows, .inl (g 0, 4, .inl a_p1_halls_rows)), (q_p1_halls_firsts, .inl (g 0, 4, .inl a_p1_halls_firsts)), (q_p1_halls_lasts, .inl (g 0, 4, .inl a_p1_halls_lasts)), (q_p1_posts, .inr (6, [.int f_p1_posts_size, .ref q_p1_posts_cells, .ref q_p1_posts_tolds])), (q_p1_posts_cells, .inl (g 0, 4, .inl a_p1_posts_cells)), (q_p1_posts_tolds, .inl (g 0, 4, .inl a_p1_posts_tolds)), (q_p1_blocks, .inl (g 0, 64, .inl a_p1_blocks)), (q_p1_kinds, .inl (g 0, 4, .inl a_p1_kinds))]) (wr := [(q_this, .inr (9, [.ref q_houses, .ref q_halls, .ref q_posts, .ref q_blocks, .ref q_kinds, .int f_hour, .int f_day, .int f_prankHouse, .int f_bells, .int f_echoes, .int f_bellPranks])), (q_halls, .inr (2, [.int f_halls_size, .ref q_halls_rows, .ref q_halls_firsts, .ref q_halls_lasts])), (q_halls_rows, .inl (g 0, 4, .inl a_halls_rows)), (q_halls_firsts, .inl (g 0, 4, .inl a_halls_firsts)), (q_halls_lasts, .inl (g 0, 4, .inl a_halls_lasts)), (q_posts, .inr (6, [.int f_posts_size, .ref q_posts_cells, .ref q_posts_tolds])), (q_posts_cells, .inl (g 0, 4, .inl a_posts_cells)), (q_posts_tolds, .inl (g 0, 4, .inl a_posts_tolds)), (q_blocks, .inl (g 0, 64, .inl a_blocks)), (q_kinds, .inl (g 0, 4, .inl a_kinds)), (q_p1, .inr (9, [.ref q_p1_houses, .ref q_p1_halls, .ref q_p1_posts, .ref q_p1_blocks, .ref q_p1_kinds, .int f_p1_hour, .int f_p1_day, .int f_p1_prankHouse, .int f_p1_bells, .int f_p1_echoes, .int f_p1_bellPranks])), (q_p1_halls, .inr (2, [.int f_p1_halls_size, .ref q_p1_halls_rows, .ref q_p1_halls_firsts, .ref q_p1_halls_lasts])), (q_p1_halls_rows, .inl (g 0, 4, .inl a_p1_halls_rows)), (q_p1_halls_firsts, .inl (g 0, 4, .inl a_p1_halls_firsts)), (q_p1_halls_lasts, .inl (g 0, 4, .inl a_p1_halls_lasts)), (q_p1_posts, .inr (6, [.int f_p1_posts_size, .ref q_p1_posts_cells, .ref q_p1_posts_tolds])), (q_p1_posts_cells, .inl (g 0, 4, .inl a_p1_posts_cells)), (q_p1_posts_tolds, .inl (g 0, 4, .inl a_p1_posts_tolds)), (q_p1_blocks, .inl (g 0, 64, .inl a_p1_blocks)), (q_p1_kinds, .inl (g 0, 4, .inl a_p1_kinds))]) (as := [q_this, q_houses, q_houses_cells, q_houses_froms, q_houses_tos, q_houses_rings, q_houses_pranks, q_halls, q_halls_rows, q_halls_firsts, q_halls_lasts, q_posts, q_posts_cells, q_posts_tolds, q_blocks, q_kinds, q_p1, q_p1_houses, q_p1_houses_cells, q_p1_houses_froms, q_p1_houses_tos, q_p1_houses_rings, q_p1_houses_pranks, q_p1_halls, q_p1_halls_rows, q_p1_halls_firsts, q_p1_halls_lasts, q_p1_posts, q_p1_posts_cells, q_p1_posts_tolds, q_p1_blocks, q_p1_kinds]) X k_X2_take (c_X2_take l D g q_houses q_houses_cells q_houses_froms q_houses_tos q_houses_rings q_houses_pranks q_p1_houses q_p1_houses_cells q_p1_houses_froms q_p1_houses_tos q_p1_houses_rings q_p1_houses_pranks f_houses_size a_houses_cells a_houses_froms a_houses_tos a_houses_rings a_houses_pranks f_p1_houses_size a_p1_houses_cells a_p1_houses_froms a_p1_houses_tos a_p1_houses_rings a_p1_houses_pranks o1 e2) ql_X9_X2_take dX9_take_8 [1, 2, 3, 4, 5, 6, 17, 18, 19, 20, 21, 22] [0, 7, 8, 9, 10, 11, 12, 13, 14, 15, 16, 23, 24, 25, 26, 27, 28, 29, 30, 31] ⟨rfl, rfl, rfl, rfl, rfl, rfl, rfl, rfl⟩ rfl rfl rfl rfl rfl ⟨Nat.le_of_ble_eq_true rfl, Nat.le_of_ble_eq_true rfl, rfl, rfl, Nat.le_of_ble_eq_true rfl, Nat.le_of_ble_eq_true rfl⟩ (Nat.le_of_ble_eq_true rfl) ?_
  refine z_aload_n X 0 dX9_take_11 rfl rfl ?_
  refine z_get (q0 := 0) (k := 1) (ci := 9) X IW_P iw_X9 rfl qf_X9_X9_halls (by decide) dX9_take_12 rfl rfl ?_
  refine z_aload_n X 1 dX9_take_15 rfl rfl ?_
  refine z_get (q0 := 16) (k := 1) (ci := 9) X IW_P iw_X9 rfl qf_X9_X9_halls (by decide) dX9_take_16 rfl rfl ?_
  obtain ⟨o3, e4, h⟩ := bnd_p h
  refine z_wrV (rest := []) (q0 := 7) (ci := 2) (ws' := [(q_this, .inr (9, [.ref q_houses, .ref q_halls, .ref q_posts, .ref q_blocks, .ref q_kinds, .int f_hour, .int f_day, .int f_prankHouse, .int f_bells, .int f_echoes, .int f_bellPranks])), (q_houses, .inr (3, [.int o1.1, .ref q_houses_cells, .ref q_houses_froms, .ref q_houses_tos, .ref q_houses_rings, .ref q_houses_pranks])), (q_houses_cells, .inl (g 0, 10, .inl o1.2.1)), (q_houses_froms, .inl (g 0, 10, .inl o1.2.2.1)), (q_houses_tos, .inl (g 0, 10, .inl o1.2.2.2.1)), (q_houses_rings, .inl (g 0, 10, .inl o1.2.2.2.2.1)), (q_houses_pranks, .inl (g 0, 10, .inl o1.2.2.2.2.2)), (q_halls, .inr (2, [.int o3.1, .ref q_halls_rows, .ref q_halls_firsts, .ref q_halls_lasts])), (q_halls_rows, .inl (g 0, 4, .inl o3.2.1)), (q_halls_firsts, .inl (g 0, 4, .inl o3.2.2.1)), (q_halls_lasts, .inl (g 0, 4, .inl o3.2.2.2)), (q_posts, .inr (6, [.int f_posts_size, .ref q_posts_cells, .ref q_posts_tolds])), (q_posts_cells, .inl (g 0, 4, .inl a_posts_cells)), (q_posts_tolds, .inl (g 0, 4, .inl a_posts_tolds)), (q_blocks, .inl (g 0, 64, .inl a_blocks)), (q_kinds, .inl (g 0, 4, .inl a_kinds)), (q_p1, .inr (9, [.ref q_p1_houses, .ref q_p1_halls, .ref q_p1_posts, .ref q_p1_blocks, .ref q_p1_kinds, .int f_p1_hour, .int f_p1_day, .int f_p1_prankHouse, .int f_p1_bells, .int f_p1_echoes, .int f_p1_bellPranks])), (q_p1_houses, .inr (3, [.int f_p1_houses_size, .ref q_p1_houses_cells, .ref q_p1_houses_froms, .ref q_p1_houses_tos, .ref q_p1_houses_rings, .ref q_p1_houses_pranks])), (q_p1_houses_cells, .inl (g 0, 10, .inl a_p1_houses_cells)), (q_p1_houses_froms, .inl (g 0, 10, .inl a_p1_houses_froms)), (q_p1_houses_tos, .inl (g 0, 10, .inl a_p1_houses_tos)), (q_p1_houses_rings, .inl (g 0, 10, .inl a_p1_houses_rings)), (q_p1_houses_pranks, .inl (g 0, 10, .inl a_p1_houses_pranks)), (q_p1_halls, .inr (2, [.int f_p1_halls_size, .ref q_p1_halls_rows, .ref q_p1_halls_firsts, .ref q_p1_halls_lasts])), (q_p1_halls_rows, .inl (g 0, 4, .inl a_p1_halls_rows)), (q_p1_halls_firsts, .inl (g 0, 4, .inl a_p1_halls_firsts)), (q_p1_halls_lasts, .inl (g 0, 4, .inl a_p1_halls_lasts)), (q_p1_posts, .inr (6, [.int f_p1_posts_size, .ref q_p1_posts_cells, .ref q_p1_posts_tolds])), (q_p1_posts_cells, .inl (g 0, 4, .inl a_p1_posts_cells)), (q_p1_posts_tolds, .inl (g 0, 4, .inl a_p1_posts_tolds)), (q_p1_blocks, .inl (g 0, 64, .inl a_p1_blocks)), (q_p1_kinds, .inl (g 0, 4, .inl a_p1_kinds))]) (wr := [(q_this, .inr (9, [.ref q_houses, .ref q_halls, .ref q_posts, .ref q_blocks, .ref q_kinds, .int f_hour, .int f_day, .int f_prankHouse, .int f_bells, .int f_echoes, .int f_bellPranks])), (q_houses, .inr (3, [.int o1.1, .ref q_houses_cells, .ref q_houses_froms, .ref q_houses_tos, .ref q_houses_rings, .ref q_houses_pranks])), (q_houses_cells, .inl (g 0, 10, .inl o1.2.1)), (q_houses_froms, .inl (g 0, 10, .inl o1.2.2.1)), (q_houses_tos, .inl (g 0, 10, .inl o1.2.2.2.1)), (q_houses_rings, .inl (g 0, 10, .inl o1.2.2.2.2.1)), (q_houses_pranks, .inl (g 0, 10, .inl o1.2.2.2.2.2)), (q_posts, .inr (6, [.int f_posts_size, .ref q_posts_cells, .ref q_posts_tolds])), (q_posts_cells, .inl (g 0, 4, .inl a_posts_cells)), (q_posts_tolds, .inl (g 0, 4, .inl a_posts_tolds)), (q_blocks, .inl (g 0, 64, .inl a_blocks)), (q_kinds, .inl (g 0, 4, .inl a_kinds)), (q_p1, .inr (9, [.ref q_p1_houses, .ref q_p1_halls, .ref q_p1_posts, .ref q_p1_blocks, .ref q_p1_kinds, .int f_p1_hour, .int f_p1_day, .int f_p1_prankHouse, .int f_p1_bells, .int f_p1_echoes, .int f_p1_bellPranks])), (q_p1_houses, .inr (3, [.int f_p1_houses_size, .ref q_p1_houses_cells, .ref q_p1_houses_froms, .ref q_p1_houses_tos, .ref q_p1_houses_rings, .ref q_p1_houses_pranks])), (q_p1_houses_cells, .inl (g 0, 10, .inl a_p1_houses_cells)), (q_p1_houses_froms, .inl (g 0, 10, .inl a_p1_houses_froms)), (q_p1_houses_tos, .inl (g 0, 10, .inl a_p1_houses_tos)), (q_p1_houses_rings, .inl (g 0, 10, .inl a_p1_houses_rings)), (q_p1_houses_pranks, .inl (g 0, 10, .inl a_p1_houses_pranks)), (q_p1_posts, .inr (6, [.int f_p1_posts_size, .ref q_p1_posts_cells, .ref q_p1_posts_tolds])), (q_p1_posts_cells, .inl (g 0, 4, .inl a_p1_posts_cells)), (q_p1_posts_tolds, .inl (g 0, 4, .inl a_p1_posts_tolds)), (q_p1_blocks, .inl (g 0, 64, .inl a_p1_blocks)), (q_p1_kinds, .inl (g 0, 4, .inl a_p1_kinds))]) (as := [q_this, q_houses, q_houses_cells, q_houses_froms, q_houses_tos, q_houses_rings, q_houses_pranks, q_halls, q_halls_rows, q_halls_firsts, q_halls_lasts, q_posts, q_posts_cells, q_posts_tolds, q_blocks, q_kinds, q_p1, q_p1_houses, q_p1_houses_cells, q_p1_houses_froms, q_p1_houses_tos, q_p1_houses_rings, q_p1_houses_pranks, q_p1_halls, q_p1_halls_rows, q_p1_halls_firsts, q_p1_halls_lasts, q_p1_posts, q_p1_posts_cells, q_p1_posts_tolds, q_p1_blocks, q_p1_kinds]) X k_X1_take (c_X1_take l D g q_halls q_halls_rows q_halls_firsts q_halls_lasts q_p1_halls q_p1_halls_rows q_p1_halls_firsts q_p1_halls_lasts f_halls_size a_halls_rows a_halls_firsts a_halls_lasts f_p1_halls_size a_p1_halls_rows a_p1_halls_firsts a_p1_halls_lasts o3 e4) ql_X9_X1_take dX9_take_19 [7, 8, 9, 10, 23, 24, 25, 26] [0, 1, 2, 3, 4, 5, 6, 11, 12, 13, 14, 15, 16, 17, 18, 19, 20, 21, 22, 27, 28, 29, 30, 31] ⟨rfl, rfl, rfl, rfl, rfl, rfl, rfl, rfl⟩ rfl rfl rfl rfl rfl ⟨Nat.le_of_ble_eq_true rfl, Nat.le_of_ble_eq_true rfl, rfl, rfl, Nat.le_of_ble_eq_true rfl, Nat.le_of_ble_eq_true rfl⟩ (Nat.le_of_ble_eq_true rfl) ?_
  refine z_aload_n X 0 dX9_take_22 rfl rfl ?_
  refine z_get (q0 := 0) (k := 2) (ci := 9) X IW_P iw_X9 rfl qf_X9_X9_posts (by decide) dX9_take_23 rfl rfl ?_
  refine z_aload_n X 1 dX9_take_26 rfl rfl ?_
  refine z_get (q0 := 16) (k := 2) (ci := 9) X IW_P iw_X9 rfl qf_X9_X9_posts (by decide) dX9_take_27 rfl rfl ?_
  obtain ⟨o5, e6, h⟩ := bnd_p h
  refine z_wrV (rest := []) (q0 := 11) (ci := 6) (ws' := [(q_this, .inr (9, [.ref q_houses, .ref q_halls, .ref q_posts, .ref q_blocks, .ref q_kinds, .int f_hour, .int f_day, .int f_prankHouse, .int f_bells, .int f_echoes, .int f_bellPranks])), (q_houses, .inr (3, [.int o1.1, .ref q_houses_cells, .ref q_houses_froms, .ref q_houses_tos, .ref q_houses_rings, .ref q_houses_pranks])), (q_houses_cells, .inl (g 0, 10, .inl o1.2.1)), (q_houses_froms, .inl (g 0, 10, .inl o1.2.2.1)), (q_houses_tos, .inl (g 0, 10, .inl o1.2.2.2.1)), (q_houses_rings, .inl (g 0, 10, .inl o1.2.2.2.2.1)), (q_houses_pranks, .inl (g 0, 10, .inl o1.2.2.2.2.2)), (q_halls, .inr (2, [.int o3.1, .ref q_halls_rows, .ref q_halls_firsts, .ref q_halls_lasts])), (q_halls_rows, .inl (g 0, 4, .inl o3.2.1)), (q_halls_firsts, .inl (g 0, 4, .inl o3.2.2.1)), (q_halls_lasts, .inl (g 0, 4, .inl o3.2.2.2)), (q_posts, .inr (6, [.int o5.1, .ref q_posts_cells, .ref q_posts_tolds])), (q_posts_cells, .inl (g 0, 4, .inl o5.2.1)), (q_posts_tolds, .inl (g 0, 4, .inl o5.2.2)), (q_blocks, .inl (g 0, 64, .inl a_blocks)), (q_kinds, .inl (g 0, 4, .inl a_kinds)), (q_p1, .inr (9, [.ref q_p1_houses, .ref q_p1_halls, .ref q_p1_posts, .ref q_p1_blocks, .ref q_p1_kinds, .int f_p1_hour, .int f_p1_day, .int f_p1_prankHouse, .int f_p1_bells, .int f_p1_echoes, .int f_p1_bellPranks])), (q_p1_houses, .inr (3, [.int f_p1_houses_size, .ref q_p1_houses_cells, .ref q_p1_houses_froms, .ref q_p1_houses_tos, .ref q_p1_houses_rings, .ref q_p1_houses_pranks])), (q_p1_houses_cells, .inl (g 0, 10, .inl a_p1_houses_cells)), (q_p1_houses_froms, .inl (g 0, 10, .inl a_p1_houses_froms)), (q_p1_houses_tos, .inl (g 0, 10, .inl a_p1_houses_tos)), (q_p1_houses_rings, .inl (g 0, 10, .inl a_p1_houses_rings)), (q_p1_houses_pranks, .inl (g 0, 10, .inl a_p1_houses_pranks)), (q_p1_halls, .inr (2, [.int f_p1_halls_size, .ref q_p1_halls_rows, .ref q_p1_halls_firsts, .ref q_p1_halls_lasts])), (q_p1_halls_rows, .inl (g 0, 4, .inl a_p1_halls_rows)), (q_p1_halls_firsts, .inl (g 0, 4, .inl a_p1_halls_firsts)), (q_p1_halls_lasts, .inl (g 0, 4, .inl a_p1_halls_lasts)), (q_p1_posts, .inr (6, [.int f_p1_posts_size, .ref q_p1_posts_cells, .ref q_p1_posts_tolds])), (q_p1_posts_cells, .inl (g 0, 4, .inl a_p1_posts_cells)), (q_p1_posts_tolds, .inl (g 0, 4, .inl a_p1_posts_tolds)), (q_p1_blocks, .inl (g 0, 64, .inl a_p1_blocks)), (q_p1_kinds, .inl (g 0, 4, .inl a_p1_kinds))]) (wr := [(q_this, .inr (9, [.ref q_houses, .ref q_halls, .ref q_posts, .ref q_blocks, .ref q_kinds, .int f_hour, .int f_day, .int f_prankHouse, .int f_bells, .int f_echoes, .int f_bellPranks])), (q_houses, .inr (3, [.int o1.1, .ref q_houses_cells, .ref q_houses_froms, .ref q_houses_tos, .ref q_houses_rings, .ref q_houses_pranks])), (q_houses_cells, .inl (g 0, 10, .inl o1.2.1)), (q_houses_froms, .inl (g 0, 10, .inl o1.2.2.1)), (q_houses_tos, .inl (g 0, 10, .inl o1.2.2.2.1)), (q_houses_rings, .inl (g 0, 10, .inl o1.2.2.2.2.1)), (q_houses_pranks, .inl (g 0, 10, .inl o1.2.2.2.2.2)), (q_halls, .inr (2, [.int o3.1, .ref q_halls_rows, .ref q_halls_firsts, .ref q_halls_lasts])), (q_halls_rows, .inl (g 0, 4, .inl o3.2.1)), (q_halls_firsts, .inl (g 0, 4, .inl o3.2.2.1)), (q_halls_lasts, .inl (g 0, 4, .inl o3.2.2.2)), (q_blocks, .inl (g 0, 64, .inl a_blocks)), (q_kinds, .inl (g 0, 4, .inl a_kinds)), (q_p1, .inr (9, [.ref q_p1_houses, .ref q_p1_halls, .ref q_p1_posts, .ref q_p1_blocks, .ref q_p1_kinds, .int f_p1_hour, .int f_p1_day, .int f_p1_prankHouse, .int f_p1_bells, .int f_p1_echoes, .int f_p1_bellPranks])), (q_p1_houses, .inr (3, [.int f_p1_houses_size, .ref q_p1_houses_cells, .ref q_p1_houses_froms, .ref q_p1_houses_tos, .ref q_p1_houses_rings, .ref q_p1_houses_pranks])), (q_p1_houses_cells, .inl (g 0, 10, .inl a_p1_houses_cells)), (q_p1_houses_froms, .inl (g 0, 10, .inl a_p1_houses_froms)), (q_p1_houses_tos, .inl (g 0, 10, .inl a_p1_houses_tos)), (q_p1_houses_rings, .inl (g 0, 10, .inl a_p1_houses_rings)), (q_p1_houses_pranks, .inl (g 0, 10, .inl a_p1_houses_pranks)), (q_p1_halls, .inr (2, [.int f_p1_halls_size, .ref q_p1_halls_rows, .ref q_p1_halls_firsts, .ref q_p1_halls_lasts])), (q_p1_halls_rows, .inl (g 0, 4, .inl a_p1_halls_rows)), (q_p1_halls_firsts, .inl (g 0, 4, .inl a_p1_halls_firsts)), (q_p1_halls_lasts, .inl (g 0, 4, .inl a_p1_halls_lasts)), (q_p1_blocks, .inl (g 0, 64, .inl a_p1_blocks)), (q_p1_kinds, .inl (g 0, 4, .inl a_p1_kinds))]) (as := [q_this, q_houses, q_houses_cells, q_houses_froms, q_houses_tos, q_houses_rings, q_houses_pranks, q_halls, q_halls_rows, q_halls_firsts, q_halls_lasts, q_posts, q_posts_cells, q_posts_tolds, q_blocks, q_kinds, q_p1, q_p1_houses, q_p1_houses_cells, q_p1_houses_froms, q_p1_houses_tos, q_p1_houses_rings, q_p1_houses_pranks, q_p1_halls, q_p1_halls_rows, q_p1_halls_firsts, q_p1_halls_lasts, q_p1_posts, q_p1_posts_cells, q_p1_posts_tolds, q_p1_blocks, q_p1_kinds]) X k_X5_take (c_X5_take l D g q_posts q_posts_cells q_posts_tolds q_p1_posts q_p1_posts_cells q_p1_posts_tolds f_posts_size a_posts_cells a_posts_tolds f_p1_posts_size a_p1_posts_cells a_p1_posts_tolds o5 e6) ql_X9_X5_take dX9_take_30 [11, 12, 13, 27, 28, 29] [0, 1, 2, 3, 4, 5, 6, 7, 8, 9, 10, 14, 15, 16, 17, 18, 19, 20, 21, 22, 23, 24, 25, 26, 30, 31] ⟨rfl, rfl, rfl, rfl, rfl, rfl, rfl, rfl⟩ rfl rfl rfl rfl rfl ⟨Nat.le_of_ble_eq_true rfl, Nat.le_of_ble_eq_true rfl, rfl, rfl, Nat.le_of_ble_eq_true rfl, Nat.le_of_ble_eq_true rfl⟩ (Nat.le_of_ble_eq_true rfl) ?_
  refine z_aload_n X 0 dX9_take_33 rfl rfl ?_
  refine z_get (q0 := 0) (k := 3) (ci := 9) X IW_P iw_X9 rfl qf_X9_X9_blocks (by decide) dX9_take_34 rfl rfl ?_
  refine z_aload_n X 1 dX9_take_37 rfl rfl ?_
  refine z_get (q0 := 16) (k := 3) (ci := 9) X IW_P iw_X9 rfl qf_X9_X9_blocks (by decide) dX9_take_38 rfl rfl ?_
  obtain ⟨o7, e8, h⟩ := bnd_p h
  refine z_wrS (rest := []) (ws' := [(q_this, .inr (9, [.ref q_houses, .ref q_halls, .ref q_posts, .ref q_blocks, .ref q_kinds, .int f_hour, .int f_day, .int f_prankHouse, .int f_bells, .int f_echoes, .int f_bellPranks])), (q_houses, .inr (3, [.int o1.1, .ref q_houses_cells, .ref q_houses_froms, .ref q_houses_tos, .ref q_houses_rings, .ref q_houses_pranks])), (q_houses_cells, .inl (g 0, 10, .inl o1.2.1)), (q_houses_froms, .inl (g 0, 10, .inl o1.2.2.1)), (q_houses_tos, .inl (g 0, 10, .inl o1.2.2.2.1)), (q_houses_rings, .inl (g 0, 10, .inl o1.2.2.2.2.1)), (q_houses_pranks, .inl (g 0, 10, .inl o1.2.2.2.2.2)), (q_halls, .inr (2, [.int o3.1, .ref q_halls_rows, .ref q_halls_firsts, .ref q_halls_lasts])), (q_halls_rows, .inl (g 0, 4, .inl o3.2.1)), (q_halls_firsts, .inl (g 0, 4, .inl o3.2.2.1)), (q_halls_lasts, .inl (g 0, 4, .inl o3.2.2.2)), (q_posts, .inr (6, [.int o5.1, .ref q_posts_cells, .ref q_posts_tolds])), (q_posts_cells, .inl (g 0, 4, .inl o5.2.1)), (q_posts_tolds, .inl (g 0, 4, .inl o5.2.2)), (q_blocks, .inl (g 0, 64, .inl o7)), (q_kinds, .inl (g 0, 4, .inl a_kinds)), (q_p1, .inr (9, [.ref q_p1_houses, .ref q_p1_halls, .ref q_p1_posts, .ref q_p1_blocks, .ref q_p1_kinds, .int f_p1_hour, .int f_p1_day, .int f_p1_prankHouse, .int f_p1_bells, .int f_p1_echoes, .int f_p1_bellPranks])), (q_p1_houses, .inr (3, [.int f_p1_houses_size, .ref q_p1_houses_cells, .ref q_p1_houses_froms, .ref q_p1_houses_tos, .ref q_p1_houses_rings, .ref q_p1_houses_pranks])), (q_p1_houses_cells, .inl (g 0, 10, .inl a_p1_houses_cells)), (q_p1_houses_froms, .inl (g 0, 10, .inl a_p1_houses_froms)), (q_p1_houses_tos, .inl (g 0, 10, .inl a_p1_houses_tos)), (q_p1_houses_rings, .inl (g 0, 10, .inl a_p1_houses_rings)), (q_p1_houses_pranks, .inl (g 0, 10, .inl a_p1_houses_pranks)), (q_p1_halls, .inr (2, [.int f_p1_halls_size, .ref q_p1_halls_rows, .ref q_p1_halls_firsts, .ref q_p1_halls_lasts])), (q_p1_halls_rows, .inl (g 0, 4, .inl a_p1_halls_rows)), (q_p1_halls_firsts, .inl (g 0, 4, .inl a_p1_halls_firsts)), (q_p1_halls_lasts, .inl (g 0, 4, .inl a_p1_halls_lasts)), (q_p1_posts, .inr (6, [.int f_p1_posts_size, .ref q_p1_posts_cells, .ref q_p1_posts_tolds])), (q_p1_posts_cells, .inl (g 0, 4, .inl a_p1_posts_cells)), (q_p1_posts_tolds, .inl (g 0, 4, .inl a_p1_posts_tolds)), (q_p1_blocks, .inl (g 0, 64, .inl a_p1_blocks)), (q_p1_kinds, .inl (g 0, 4, .inl a_p1_kinds))]) (wr := [(q_this, .inr (9, [.ref q_houses, .ref q_halls, .ref q_posts, .ref q_blocks, .ref q_kinds, .int f_hour, .int f_day, .int f_prankHouse, .int f_bells, .int f_echoes, .int f_bellPranks])), (q_houses, .inr (3, [.int o1.1, .ref q_houses_cells, .ref q_houses_froms, .ref q_houses_tos, .ref q_houses_rings, .ref q_houses_pranks])), (q_houses_cells, .inl (g 0, 10, .inl o1.2.1)), (q_houses_froms, .inl (g 0, 10, .inl o1.2.2.1)), (q_houses_tos, .inl (g 0, 10, .inl o1.2.2.2.1)), (q_houses_rings, .inl (g 0, 10, .inl o1.2.2.2.2.1)), (q_houses_pranks, .inl (g 0, 10, .inl o1.2.2.2.2.2)), (q_halls, .inr (2, [.int o3.1, .ref q_halls_rows, .ref q_halls_firsts, .ref q_halls_lasts])), (q_halls_rows, .inl (g 0, 4, .inl o3.2.1)), (q_halls_firsts, .inl (g 0, 4, .inl o3.2.2.1)), (q_halls_lasts, .inl (g 0, 4, .inl o3.2.2.2)), (q_posts, .inr (6, [.int o5.1, .ref q_posts_cells, .ref q_posts_tolds])), (q_posts_cells, .inl (g 0, 4, .inl o5.2.1)), (q_posts_tolds, .inl (g 0, 4, .inl o5.2.2)), (q_kinds, .inl (g 0, 4, .inl a_kinds)), (q_p1, .inr (9, [.ref q_p1_houses, .ref q_p1_halls, .ref q_p1_posts, .ref q_p1_blocks, .ref q_p1_kinds, .int f_p1_hour, .int f_p1_day, .int f_p1_prankHouse, .int f_p1_bells, .int f_p1_echoes, .int f_p1_bellPranks])), (q_p1_houses, .inr (3, [.int f_p1_houses_size, .ref q_p1_houses_cells, .ref q_p1_houses_froms, .ref q_p1_houses_tos, .ref q_p1_houses_rings, .ref q_p1_houses_pranks])), (q_p1_houses_cells, .inl (g 0, 10, .inl a_p1_houses_cells)), (q_p1_houses_froms, .inl (g 0, 10, .inl a_p1_houses_froms)), (q_p1_houses_tos, .inl (g 0, 10, .inl a_p1_houses_tos)), (q_p1_houses_rings, .inl (g 0, 10, .inl a_p1_houses_rings)), (q_p1_houses_pranks, .inl (g 0, 10, .inl a_p1_houses_pranks)), (q_p1_halls, .inr (2, [.int f_p1_halls_size, .ref q_p1_halls_rows, .ref q_p1_halls_firsts, .ref q_p1_halls_lasts])), (q_p1_halls_rows, .inl (g 0, 4, .inl a_p1_halls_rows)), (q_p1_halls_firsts, .inl (g 0, 4, .inl a_p1_halls_firsts)), (q_p1_halls_lasts, .inl (g 0, 4, .inl a_p1_halls_lasts)), (q_p1_posts, .inr (6, [.int f_p1_posts_size, .ref q_p1_posts_cells, .ref q_p1_posts_tolds])), (q_p1_posts_cells, .inl (g 0, 4, .inl a_p1_posts_cells)), (q_p1_posts_tolds, .inl (g 0, 4, .inl a_p1_posts_tolds)), (q_p1_kinds, .inl (g 0, 4, .inl a_p1_kinds))]) (as := [q_this, q_houses, q_houses_cells, q_houses_froms, q_houses_tos, q_houses_rings, q_houses_pranks, q_halls, q_halls_rows, q_halls_firsts, q_halls_lasts, q_posts, q_posts_cells, q_posts_tolds, q_blocks, q_kinds, q_p1, q_p1_houses, q_p1_houses_cells, q_p1_houses_froms, q_p1_houses_tos, q_p1_houses_rings, q_p1_houses_pranks, q_p1_halls, q_p1_halls_rows, q_p1_halls_firsts, q_p1_halls_lasts, q_p1_posts, q_p1_posts_cells, q_p1_posts_tolds, q_p1_blocks, q_p1_kinds]) X k_X7_take (c_X7_take l D g q_blocks q_p1_blocks 64 64 a_blocks a_p1_blocks o7 e8) ql_X9_X7_take dX9_take_41 [14, 30] [0, 1, 2, 3, 4, 5, 6, 7, 8, 9, 10, 11, 12, 13, 15, 16, 17, 18, 19, 20, 21, 22, 23, 24, 25, 26, 27, 28, 29, 31] ⟨rfl, rfl, rfl, rfl, rfl, rfl, rfl, rfl⟩ rfl rfl ⟨Nat.le_of_ble_eq_true rfl, Nat.le_of_ble_eq_true rfl, rfl, rfl, Nat.le_of_ble_eq_true rfl, Nat.le_of_ble_eq_true rfl⟩ (Nat.le_of_ble_eq_true rfl) ?_
  refine z_aload_n X 0 dX9_take_44 rfl rfl ?_
  refine z_get (q0 := 0) (k := 4) (ci := 9) X IW_P iw_X9 rfl qf_X9_X9_kinds (by decide) dX9_take_45 rfl rfl ?_
  refine z_aload_n X 1 dX9_take_48 rfl rfl ?_
  refine z_get (q0 := 16) (k := 4) (ci := 9) X IW_P iw_X9 rfl qf_X9_X9_kinds (by decide) dX9_take_49 rfl rfl ?_
  obtain ⟨o9, e10, h⟩ := bnd_p h
  refine z_wrS (rest := []) (ws' := [(q_this, .inr (9, [.ref q_houses, .ref q_halls, .ref q_posts, .ref q_blocks, .ref q_kinds, .int f_hour, .int f_day, .int f_prankHouse, .int f_bells, .int f_echoes, .int f_bellPranks])), (q_houses, .inr (3, [.int o1.1, .ref q_houses_cells, .ref q_houses_froms, .ref q_houses_tos, .ref q_houses_rings, .ref q_houses_pranks])), (q_houses_cells, .inl (g 0, 10, .inl o1.2.1)), (q_houses_froms, .inl (g 0, 10, .inl o1.2.2.1)), (q_houses_tos, .inl (g 0, 10, .inl o1.2.2.2.1)), (q_houses_rings, .inl (g 0, 10, .inl o1.2.2.2.2.1)), (q_houses_pranks, .inl (g 0, 10, .inl o1.2.2.2.2.2)), (q_halls, .inr (2, [.int o3.1, .ref q_halls_rows, .ref q_halls_firsts, .ref q_halls_lasts])), (q_halls_rows, .inl (g 0, 4, .inl o3.2.1)), (q_halls_firsts, .inl (g 0, 4, .inl o3.2.2.1)), (q_halls_lasts, .inl (g 0, 4, .inl o3.2.2.2)), (q_posts, .inr (6, [.int o5.1, .ref q_posts_cells, .ref q_posts_tolds])), (q_posts_cells, .inl (g 0, 4, .inl o5.2.1)), (q_posts_tolds, .inl (g 0, 4, .inl o5.2.2)), (q_blocks, .inl (g 0, 64, .inl o7)), (q_kinds, .inl (g 0, 4, .inl o9)), (q_p1, .inr (9, [.ref q_p1_houses, .ref q_p1_halls, .ref q_p1_posts, .ref q_p1_blocks, .ref q_p1_kinds, .int f_p1_hour, .int f_p1_day, .int f_p1_prankHouse, .int f_p1_bells, .int f_p1_echoes, .int f_p1_bellPranks])), (q_p1_houses, .inr (3, [.int f_p1_houses_size, .ref q_p1_houses_cells, .ref q_p1_houses_froms, .ref q_p1_houses_tos, .ref q_p1_houses_rings, .ref q_p1_houses_pranks])), (q_p1_houses_cells, .inl (g 0, 10, .inl a_p1_houses_cells)), (q_p1_houses_froms, .inl (g 0, 10, .inl a_p1_houses_froms)), (q_p1_houses_tos, .inl (g 0, 10, .inl a_p1_houses_tos)), (q_p1_houses_rings, .inl (g 0, 10, .inl a_p1_houses_rings)), (q_p1_houses_pranks, .inl (g 0, 10, .inl a_p1_houses_pranks)), (q_p1_halls, .inr (2, [.int f_p1_halls_size, .ref q_p1_halls_rows, .ref q_p1_halls_firsts, .ref q_p1_halls_lasts])), (q_p1_halls_rows, .inl (g 0, 4, .inl a_p1_halls_rows)), (q_p1_halls_firsts, .inl (g 0, 4, .inl a_p1_halls_firsts)), (q_p1_halls_lasts, .inl (g 0, 4, .inl a_p1_halls_lasts)), (q_p1_posts, .inr (6, [.int f_p1_posts_size, .ref q_p1_posts_cells, .ref q_p1_posts_tolds])), (q_p1_posts_cells, .inl (g 0, 4, .inl a_p1_posts_cells)), (q_p1_posts_tolds, .inl (g 0, 4, .inl a_p1_posts_tolds)), (q_p1_blocks, .inl (g 0, 64, .inl a_p1_blocks)), (q_p1_kinds, .inl (g 0, 4, .inl a_p1_kinds))]) (wr := [(q_this, .inr (9, [.ref q_houses, .ref q_halls, .ref q_posts, .ref q_blocks, .ref q_kinds, .int f_hour, .int f_day, .int f_prankHouse, .int f_bells, .int f_echoes, .int f_bellPranks])), (q_houses, .inr (3, [.int o1.1, .ref q_houses_cells, .ref q_houses_froms, .ref q_houses_tos, .ref q_houses_rings, .ref q_houses_pranks])), (q_houses_cells, .inl (g 0, 10, .inl o1.2.1)), (q_houses_froms, .inl (g 0, 10, .inl o1.2.2.1)), (q_houses_tos, .inl (g 0, 10, .inl o1.2.2.2.1)), (q_houses_rings, .inl (g 0, 10, .inl o1.2.2.2.2.1)), (q_houses_pranks, .inl (g 0, 10, .inl o1.2.2.2.2.2)), (q_halls, .inr (2, [.int o3.1, .ref q_halls_rows, .ref q_halls_firsts, .ref q_halls_lasts])), (q_halls_rows, .inl (g 0, 4, .inl o3.2.1)), (q_halls_firsts, .inl (g 0, 4, .inl o3.2.2.1)), (q_halls_lasts, .inl (g 0, 4, .inl o3.2.2.2)), (q_posts, .inr (6, [.int o5.1, .ref q_posts_cells, .ref q_posts_tolds])), (q_posts_cells, .inl (g 0, 4, .inl o5.2.1)), (q_posts_tolds, .inl (g 0, 4, .inl o5.2.2)), (q_blocks, .inl (g 0, 64, .inl o7)), (q_p1, .inr (9, [.ref q_p1_houses, .ref q_p1_halls, .ref q_p1_posts, .ref q_p1_blocks, .ref q_p1_kinds, .int f_p1_hour, .int f_p1_day, .int f_p1_prankHouse, .int f_p1_bells, .int f_p1_echoes, .int f_p1_bellPranks])), (q_p1_houses, .inr (3, [.int f_p1_houses_size, .ref q_p1_houses_cells, .ref q_p1_houses_froms, .ref q_p1_houses_tos, .ref q_p1_houses_rings, .ref q_p1_houses_pranks])), (q_p1_houses_cells, .inl (g 0, 10, .inl a_p1_houses_cells)), (q_p1_houses_froms, .inl (g 0, 10, .inl a_p1_houses_froms)), (q_p1_houses_tos, .inl (g 0, 10, .inl a_p1_houses_tos)), (q_p1_houses_rings, .inl (g 0, 10, .inl a_p1_houses_rings)), (q_p1_houses_pranks, .inl (g 0, 10, .inl a_p1_houses_pranks)), (q_p1_halls, .inr (2, [.int f_p1_halls_size, .ref q_p1_halls_rows, .ref q_p1_halls_firsts, .ref q_p1_halls_lasts])), (q_p1_halls_rows, .inl (g 0, 4, .inl a_p1_halls_rows)), (q_p1_halls_firsts, .inl (g 0, 4, .inl a_p1_halls_firsts)), (q_p1_halls_lasts, .inl (g 0, 4, .inl a_p1_halls_lasts)), (q_p1_posts, .inr (6, [.int f_p1_posts_size, .ref q_p1_posts_cells, .ref q_p1_posts_tolds])), (q_p1_posts_cells, .inl (g 0, 4, .inl a_p1_posts_cells)), (q_p1_posts_tolds, .inl (g 0, 4, .inl a_p1_posts_tolds)), (q_p1_blocks, .inl (g 0, 64, .inl a_p1_blocks))]) (as := [q_this, q_houses, q_houses_cells, q_houses_froms, q_houses_tos, q_houses_rings, q_houses_pranks, q_halls, q_halls_rows, q_halls_firsts, q_halls_lasts, q_posts, q_posts_cells, q_posts_tolds, q_blocks, q_kinds, q_p1, q_p1_houses, q_p1_houses_cells, q_p1_houses_froms, q_p1_houses_tos, q_p1_houses_rings, q_p1_houses_pranks, q_p1_halls, q_p1_halls_rows, q_p1_halls_firsts, q_p1_halls_lasts, q_p1_posts, q_p1_posts_cells, q_p1_posts_tolds, q_p1_blocks, q_p1_kinds]) X k_X7_take (c_X7_take l D g q_kinds q_p1_kinds 4 4 a_kinds a_p1_kinds o9 e10) ql_X9_X7_take dX9_take_52 [15, 31] [0, 1, 2, 3, 4, 5, 6, 7, 8, 9, 10, 11, 12, 13, 14, 16, 17, 18, 19, 20, 21, 22, 23, 24, 25, 26, 27, 28, 29, 30] ⟨rfl, rfl, rfl, rfl, rfl, rfl, rfl, rfl⟩ rfl rfl ⟨Nat.le_of_ble_eq_true rfl, Nat.le_of_ble_eq_true rfl, rfl, rfl, Nat.le_of_ble_eq_true rfl, Nat.le_of_ble_eq_true rfl⟩ (Nat.le_of_ble_eq_true rfl) ?_
  refine z_aload_n X 0 dX9_take_55 rfl rfl ?_
  refine z_aload_n X 1 dX9_take_56 rfl rfl ?_
  refine z_get (q0 := 16) (k := 5) (ci := 9) X IW_P iw_X9 rfl qf_X9_X9_hour (by decide) dX9_take_57 rfl rfl ?_
  refine z_put (q0 := 0) (k := 5) (ci := 9) (ws' := [(q_this, .inr (9, [.ref q_houses, .ref q_halls, .ref q_posts, .ref q_blocks, .ref q_kinds, .int f_p1_hour, .int f_day, .int f_prankHouse, .int f_bells, .int f_echoes, .int f_bellPranks])), (q_houses, .inr (3, [.int o1.1, .ref q_houses_cells, .ref q_houses_froms, .ref q_houses_tos, .ref q_houses_rings, .ref q_houses_pranks])), (q_houses_cells, .inl (g 0, 10, .inl o1.2.1)), (q_houses_froms, .inl (g 0, 10, .inl o1.2.2.1)), (q_houses_tos, .inl (g 0, 10, .inl o1.2.2.2.1)), (q_houses_rings, .inl (g 0, 10, .inl o1.2.2.2.2.1)), (q_houses_pranks, .inl (g 0, 10, .inl o1.2.2.2.2.2)), (q_halls, .inr (2, [.int o3.1, .ref q_halls_rows, .ref q_halls_firsts, .ref q_halls_lasts])), (q_halls_rows, .inl (g 0, 4, .inl o3.2.1)), (q_halls_firsts, .inl (g 0, 4, .inl o3.2.2.1)), (q_halls_lasts, .inl (g 0, 4, .inl o3.2.2.2)), (q_posts, .inr (6, [.int o5.1, .ref q_posts_cells, .ref q_posts_tolds])), (q_posts_cells, .inl (g 0, 4, .inl o5.2.1)), (q_posts_tolds, .inl (g 0, 4, .inl o5.2.2)), (q_blocks, .inl (g 0, 64, .inl o7)), (q_kinds, .inl (g 0, 4, .inl o9)), (q_p1, .inr (9, [.ref q_p1_houses, .ref q_p1_halls, .ref q_p1_posts, .ref q_p1_blocks, .ref q_p1_kinds, .int f_p1_hour, .int f_p1_day, .int f_p1_prankHouse, .int f_p1_bells, .int f_p1_echoes, .int f_p1_bellPranks])), (q_p1_houses, .inr (3, [.int f_p1_houses_size, .ref q_p1_houses_cells, .ref q_p1_houses_froms, .ref q_p1_houses_tos, .ref q_p1_houses_rings, .ref q_p1_houses_pranks])), (q_p1_houses_cells, .inl (g 0, 10, .inl a_p1_houses_cells)), (q_p1_houses_froms, .inl (g 0, 10, .inl a_p1_houses_froms)), (q_p1_houses_tos, .inl (g 0, 10, .inl a_p1_houses_tos)), (q_p1_houses_rings, .inl (g 0, 10, .inl a_p1_houses_rings)), (q_p1_houses_pranks, .inl (g 0, 10, .inl a_p1_houses_pranks)), (q_p1_halls, .inr (2, [.int f_p1_halls_size, .ref q_p1_halls_rows, .ref q_p1_halls_firsts, .ref q_p1_halls_lasts])), (q_p1_halls_rows, .inl (g 0, 4, .inl a_p1_halls_rows)), (q_p1_halls_firsts, .inl (g 0, 4, .inl a_p1_halls_firsts)), (q_p1_halls_lasts, .inl (g 0, 4, .inl a_p1_halls_lasts)), (q_p1_posts, .inr (6, [.int f_p1_posts_size, .ref q_p1_posts_cells, .ref q_p1_posts_tolds])), (q_p1_posts_cells, .inl (g 0, 4, .inl a_p1_posts_cells)), (q_p1_posts_tolds, .inl (g 0, 4, .inl a_p1_posts_tolds)), (q_p1_blocks, .inl (g 0, 64, .inl a_p1_blocks)), (q_p1_kinds, .inl (g 0, 4, .inl a_p1_kinds))]) X iw_X9 tyX9_ok nmX9 rfl qf_X9_X9_hour (by decide) rfl rfl dX9_take_60 rfl rfl rfl (Nat.le_of_ble_eq_true rfl) rfl ?_
  refine z_aload_n X 0 dX9_take_63 rfl rfl ?_
  refine z_aload_n X 1 dX9_take_64 rfl rfl ?_
  refine z_get (q0 := 16) (k := 6) (ci := 9) X IW_P iw_X9 rfl qf_X9_X9_day (by decide) dX9_take_65 rfl rfl ?_
  refine z_put (q0 := 0) (k := 6) (ci := 9) (ws' := [(q_this, .inr (9, [.ref q_houses, .ref q_halls, .ref q_posts, .ref q_blocks, .ref q_kinds, .int f_p1_hour, .int f_p1_day, .int f_prankHouse, .int f_bells, .int f_echoes, .int f_bellPranks])), (q_houses, .inr (3, [.int o1.1, .ref q_houses_cells, .ref q_houses_froms, .ref q_houses_tos, .ref q_houses_rings, .ref q_houses_pranks])), (q_houses_cells, .inl (g 0, 10, .inl o1.2.1)), (q_houses_froms, .inl (g 0, 10, .inl o1.2.2.1)), (q_houses_tos, .inl (g 0, 10, .inl o1.2.2.2.1)), (q_houses_rings, .inl (g 0, 10, .inl o1.2.2.2.2.1)), (q_houses_pranks, .inl (g 0, 10, .inl o1.2.2.2.2.2)), (q_halls, .inr (2, [.int o3.1, .ref q_halls_rows, .ref q_halls_firsts, .ref q_halls_lasts])), (q_halls_rows, .inl (g 0, 4, .inl o3.2.1)), (q_halls_firsts, .inl (g 0, 4, .inl o3.2.2.1)), (q_halls_lasts, .inl (g 0, 4, .inl o3.2.2.2)), (q_posts, .inr (6, [.int o5.1, .ref q_posts_cells, .ref q_posts_tolds])), (q_posts_cells, .inl (g 0, 4, .inl o5.2.1)), (q_posts_tolds, .inl (g 0, 4, .inl o5.2.2)), (q_blocks, .inl (g 0, 64, .inl o7)), (q_kinds, .inl (g 0, 4, .inl o9)), (q_p1, .inr (9, [.ref q_p1_houses, .ref q_p1_halls, .ref q_p1_posts, .ref q_p1_blocks, .ref q_p1_kinds, .int f_p1_hour, .int f_p1_day, .int f_p1_prankHouse, .int f_p1_bells, .int f_p1_echoes, .int f_p1_bellPranks])), (q_p1_houses, .inr (3, [.int f_p1_houses_size, .ref q_p1_houses_cells, .ref q_p1_houses_froms, .ref q_p1_houses_tos, .ref q_p1_houses_rings, .ref q_p1_houses_pranks])), (q_p1_houses_cells, .inl (g 0, 10, .inl a_p1_houses_cells)), (q_p1_houses_froms, .inl (g 0, 10, .inl a_p1_houses_froms)), (q_p1_houses_tos, .inl (g 0, 10, .inl a_p1_houses_tos)), (q_p1_houses_rings, .inl (g 0, 10, .inl a_p1_houses_rings)), (q_p1_houses_pranks, .inl (g 0, 10, .inl a_p1_houses_pranks)), (q_p1_halls, .inr (2, [.int f_p1_halls_size, .ref q_p1_halls_rows, .ref q_p1_halls_firsts, .ref q_p1_halls_lasts])), (q_p1_halls_rows, .inl (g 0, 4, .inl a_p1_halls_rows)), (q_p1_halls_firsts, .inl (g 0, 4, .inl a_p1_halls_firsts)), (q_p1_halls_lasts, .inl (g 0, 4, .inl a_p1_halls_lasts)), (q_p1_posts, .inr (6, [.int f_p1_posts_size, .ref q_p1_posts_cells, .ref q_p1_posts_tolds])), (q_p1_posts_cells, .inl (g 0, 4, .inl a_p1_posts_cells)), (q_p1_posts_tolds, .inl (g 0, 4, .inl a_p1_posts_tolds)), (q_p1_blocks, .inl (g 0, 64, .inl a_p1_blocks)), (q_p1_kinds, .inl (g 0, 4, .inl a_p1_kinds))]) X iw_X9 tyX9_ok nmX9 rfl qf_X9_X9_day (by decide) rfl rfl dX9_take_68 rfl rfl rfl (Nat.le_of_ble_eq_true rfl) rfl ?_
  refine z_aload_n X 0 dX9_take_71 rfl rfl ?_
  refine z_aload_n X 1 dX9_take_72 rfl rfl ?_
  refine z_get (q0 := 16) (k := 7) (ci := 9) X IW_P iw_X9 rfl qf_X9_X9_prankHouse (by decide) dX9_take_73 rfl rfl ?_
  refine z_put (q0 := 0) (k := 7) (ci := 9) (ws' := [(q_this, .inr (9, [.ref q_houses, .ref q_halls, .ref q_posts, .ref q_blocks, .ref q_kinds, .int f_p1_hour, .int f_p1_day, .int f_p1_prankHouse, .int f_bells, .int f_echoes, .int f_bellPranks])), (q_houses, .inr (3, [.int o1.1, .ref q_houses_cells, .ref q_houses_froms, .ref q_houses_tos, .ref q_houses_rings, .ref q_houses_pranks])), (q_houses_cells, .inl (g 0, 10, .inl o1.2.1)), (q_houses_froms, .inl (g 0, 10, .inl o1.2.2.1)), (q_houses_tos, .inl (g 0, 10, .inl o1.2.2.2.1)), (q_houses_rings, .inl (g 0, 10, .inl o1.2.2.2.2.1)), (q_houses_pranks, .inl (g 0, 10, .inl o1.2.2.2.2.2)), (q_halls, .inr (2, [.int o3.1, .ref q_halls_rows, .ref q_halls_firsts, .ref q_halls_lasts])), (q_halls_rows, .inl (g 0, 4, .inl o3.2.1)), (q_halls_firsts, .inl (g 0, 4, .inl o3.2.2.1)), (q_halls_lasts, .inl (g 0, 4, .inl o3.2.2.2)), (q_posts, .inr (6, [.int o5.1, .ref q_posts_cells, .ref q_posts_tolds])), (q_posts_cells, .inl (g 0, 4, .inl o5.2.1)), (q_posts_tolds, .inl (g 0, 4, .inl o5.2.2)), (q_blocks, .inl (g 0, 64, .inl o7)), (q_kinds, .inl (g 0, 4, .inl o9)), (q_p1, .inr (9, [.ref q_p1_houses, .ref q_p1_halls, .ref q_p1_posts, .ref q_p1_blocks, .ref q_p1_kinds, .int f_p1_hour, .int f_p1_day, .int f_p1_prankHouse, .int f_p1_bells, .int f_p1_echoes, .int f_p1_bellPranks])), (q_p1_houses, .inr (3, [.int f_p1_houses_size, .ref q_p1_houses_cells, .ref q_p1_houses_froms, .ref q_p1_houses_tos, .ref q_p1_houses_rings, .ref q_p1_houses_pranks])), (q_p1_houses_cells, .inl (g 0, 10, .inl a_p1_houses_cells)), (q_p1_houses_froms, .inl (g 0, 10, .inl a_p1_houses_froms)), (q_p1_houses_tos, .inl (g 0, 10, .inl a_p1_houses_tos)), (q_p1_houses_rings, .inl (g 0, 10, .inl a_p1_houses_rings)), (q_p1_houses_pranks, .inl (g 0, 10, .inl a_p1_houses_pranks)), (q_p1_halls, .inr (2, [.int f_p1_halls_size, .ref q_p1_halls_rows, .ref q_p1_halls_firsts, .ref q_p1_halls_lasts])), (q_p1_halls_rows, .inl (g 0, 4, .inl a_p1_halls_rows)), (q_p1_halls_firsts, .inl (g 0, 4, .inl a_p1_halls_firsts)), (q_p1_halls_lasts, .inl (g 0, 4, .inl a_p1_halls_lasts)), (q_p1_posts, .inr (6, [.int f_p1_posts_size, .ref q_p1_posts_cells, .ref q_p1_posts_tolds])), (q_p1_posts_cells, .inl (g 0, 4, .inl a_p1_posts_cells)), (q_p1_posts_tolds, .inl (g 0, 4, .inl a_p1_posts_tolds)), (q_p1_blocks, .inl (g 0, 64, .inl a_p1_blocks)), (q_p1_kinds, .inl (g 0, 4, .inl a_p1_kinds))]) X iw_X9 tyX9_ok nmX9 rfl qf_X9_X9_prankHouse (by decide) rfl rfl dX9_take_76 rfl rfl rfl (Nat.le_of_ble_eq_true rfl) rfl ?_
  refine z_aload_n X 0 dX9_take_79 rfl rfl ?_
  refine z_aload_n X 1 dX9_take_80 rfl rfl ?_
  refine z_get (q0 := 16) (k := 8) (ci := 9) X IW_P iw_X9 rfl qf_X9_X9_bells (by decide) dX9_take_81 rfl rfl ?_
  refine z_put (q0 := 0) (k := 8) (ci := 9) (ws' := [(q_this, .inr (9, [.ref q_houses, .ref q_halls, .ref q_posts, .ref q_blocks, .ref q_kinds, .int f_p1_hour, .int f_p1_day, .int f_p1_prankHouse, .int f_p1_bells, .int f_echoes, .int f_bellPranks])), (q_houses, .inr (3, [.int o1.1, .ref q_houses_cells, .ref q_houses_froms, .ref q_houses_tos, .ref q_houses_rings, .ref q_houses_pranks])), (q_houses_cells, .inl (g 0, 10, .inl o1.2.1)), (q_houses_froms, .inl (g 0, 10, .inl o1.2.2.1)), (q_houses_tos, .inl (g 0, 10, .inl o1.2.2.2.1)), (q_houses_rings, .inl (g 0, 10, .inl o1.2.2.2.2.1)), (q_houses_pranks, .inl (g 0, 10, .inl o1.2.2.2.2.2)), (q_halls, .inr (2, [.int o3.1, .ref q_halls_rows, .ref q_halls_firsts, .ref q_halls_lasts])), (q_halls_rows, .inl (g 0, 4, .inl o3.2.1)), (q_halls_firsts, .inl (g 0, 4, .inl o3.2.2.1)), (q_halls_lasts, .inl (g 0, 4, .inl o3.2.2.2)), (q_posts, .inr (6, [.int o5.1, .ref q_posts_cells, .ref q_posts_tolds])), (q_posts_cells, .inl (g 0, 4, .inl o5.2.1)), (q_posts_tolds, .inl (g 0, 4, .inl o5.2.2)), (q_blocks, .inl (g 0, 64, .inl o7)), (q_kinds, .inl (g 0, 4, .inl o9)), (q_p1, .inr (9, [.ref q_p1_houses, .ref q_p1_halls, .ref q_p1_posts, .ref q_p1_blocks, .ref q_p1_kinds, .int f_p1_hour, .int f_p1_day, .int f_p1_prankHouse, .int f_p1_bells, .int f_p1_echoes, .int f_p1_bellPranks])), (q_p1_houses, .inr (3, [.int f_p1_houses_size, .ref q_p1_houses_cells, .ref q_p1_houses_froms, .ref q_p1_houses_tos, .ref q_p1_houses_rings, .ref q_p1_houses_pranks])), (q_p1_houses_cells, .inl (g 0, 10, .inl a_p1_houses_cells)), (q_p1_houses_froms, .inl (g 0, 10, .inl a_p1_houses_froms)), (q_p1_houses_tos, .inl (g 0, 10, .inl a_p1_houses_tos)), (q_p1_houses_rings, .inl (g 0, 10, .inl a_p1_houses_rings)), (q_p1_houses_pranks, .inl (g 0, 10, .inl a_p1_houses_pranks)), (q_p1_halls, .inr (2, [.int f_p1_halls_size, .ref q_p1_halls_rows, .ref q_p1_halls_firsts, .ref q_p1_halls_lasts])), (q_p1_halls_rows, .inl (g 0, 4, .inl a_p1_halls_rows)), (q_p1_halls_firsts, .inl (g 0, 4, .inl a_p1_halls_firsts)), (q_p1_halls_lasts, .inl (g 0, 4, .inl a_p1_halls_lasts)), (q_p1_posts, .inr (6, [.int f_p1_posts_size, .ref q_p1_posts_cells, .ref q_p1_posts_tolds])), (q_p1_posts_cells, .inl (g 0, 4, .inl a_p1_posts_cells)), (q_p1_posts_tolds, .inl (g 0, 4, .inl a_p1_posts_tolds)), (q_p1_blocks, .inl (g 0, 64, .inl a_p1_blocks)), (q_p1_kinds, .inl (g 0, 4, .inl a_p1_kinds))]) X iw_X9 tyX9_ok nmX9 rfl qf_X9_X9_bells (by decide) rfl rfl dX9_take_84 rfl rfl rfl (Nat.le_of_ble_eq_true rfl) rfl ?_
  refine z_aload_n X 0 dX9_take_87 rfl rfl ?_
  refine z_aload_n X 1 dX9_take_88 rfl rfl ?_
  refine z_get (q0 := 16) (k := 9) (ci := 9) X IW_P iw_X9 rfl qf_X9_X9_echoes (by decide) dX9_take_89 rfl rfl ?_
  refine z_put (q0 := 0) (k := 9) (ci := 9) (ws' := [(q_this, .inr (9, [.ref q_houses, .ref q_halls, .ref q_posts, .ref q_blocks, .ref q_kinds, .int f_p1_hour, .int f_p1_day, .int f_p1_prankHouse, .int f_p1_bells, .int f_p1_echoes, .int f_bellPranks])), (q_houses, .inr (3, [.int o1.1, .ref q_houses_cells, .ref q_houses_froms, .ref q_houses_tos, .ref q_houses_rings, .ref q_houses_pranks])), (q_houses_cells, .inl (g 0, 10, .inl o1.2.1)), (q_houses_froms, .inl (g 0, 10, .inl o1.2.2.1)), (q_houses_tos, .inl (g 0, 10, .inl o1.2.2.2.1)), (q_houses_rings, .inl (g 0, 10, .inl o1.2.2.2.2.1)), (q_houses_pranks, .inl (g 0, 10, .inl o1.2.2.2.2.2)), (q_halls, .inr (2, [.int o3.1, .ref q_halls_rows, .ref q_halls_firsts, .ref q_halls_lasts])), (q_halls_rows, .inl (g 0, 4, .inl o3.2.1)), (q_halls_firsts, .inl (g 0, 4, .inl o3.2.2.1)), (q_halls_lasts, .inl (g 0, 4, .inl o3.2.2.2)), (q_posts, .inr (6, [.int o5.1, .ref q_posts_cells, .ref q_posts_tolds])), (q_posts_cells, .inl (g 0, 4, .inl o5.2.1)), (q_posts_tolds, .inl (g 0, 4, .inl o5.2.2)), (q_blocks, .inl (g 0, 64, .inl o7)), (q_kinds, .inl (g 0, 4, .inl o9)), (q_p1, .inr (9, [.ref q_p1_houses, .ref q_p1_halls, .ref q_p1_posts, .ref q_p1_blocks, .ref q_p1_kinds, .int f_p1_hour, .int f_p1_day, .int f_p1_prankHouse, .int f_p1_bells, .int f_p1_echoes, .int f_p1_bellPranks])), (q_p1_houses, .inr (3, [.int f_p1_houses_size, .ref q_p1_houses_cells, .ref q_p1_houses_froms, .ref q_p1_houses_tos, .ref q_p1_houses_rings, .ref q_p1_houses_pranks])), (q_p1_houses_cells, .inl (g 0, 10, .inl a_p1_houses_cells)), (q_p1_houses_froms, .inl (g 0, 10, .inl a_p1_houses_froms)), (q_p1_houses_tos, .inl (g 0, 10, .inl a_p1_houses_tos)), (q_p1_houses_rings, .inl (g 0, 10, .inl a_p1_houses_rings)), (q_p1_houses_pranks, .inl (g 0, 10, .inl a_p1_houses_pranks)), (q_p1_halls, .inr (2, [.int f_p1_halls_size, .ref q_p1_halls_rows, .ref q_p1_halls_firsts, .ref q_p1_halls_lasts])), (q_p1_halls_rows, .inl (g 0, 4, .inl a_p1_halls_rows)), (q_p1_halls_firsts, .inl (g 0, 4, .inl a_p1_halls_firsts)), (q_p1_halls_lasts, .inl (g 0, 4, .inl a_p1_halls_lasts)), (q_p1_posts, .inr (6, [.int f_p1_posts_size, .ref q_p1_posts_cells, .ref q_p1_posts_tolds])), (q_p1_posts_cells, .inl (g 0, 4, .inl a_p1_posts_cells)), (q_p1_posts_tolds, .inl (g 0, 4, .inl a_p1_posts_tolds)), (q_p1_blocks, .inl (g 0, 64, .inl a_p1_blocks)), (q_p1_kinds, .inl (g 0, 4, .inl a_p1_kinds))]) X iw_X9 tyX9_ok nmX9 rfl qf_X9_X9_echoes (by decide) rfl rfl dX9_take_92 rfl rfl rfl (Nat.le_of_ble_eq_true rfl) rfl ?_
  refine z_aload_n X 0 dX9_take_95 rfl rfl ?_
  refine z_aload_n X 1 dX9_take_96 rfl rfl ?_
  refine z_get (q0 := 16) (k := 10) (ci := 9) X IW_P iw_X9 rfl qf_X9_X9_bellPranks (by decide) dX9_take_97 rfl rfl ?_
  refine z_put (q0 := 0) (k := 10) (ci := 9) (ws' := [(q_this, .inr (9, [.ref q_houses, .ref q_halls, .ref q_posts, .ref q_blocks, .ref q_kinds, .int f_p1_hour, .int f_p1_day, .int f_p1_prankHouse, .int f_p1_bells, .int f_p1_echoes, .int f_p1_bellPranks])), (q_houses, .inr (3, [.int o1.1, .ref q_houses_cells, .ref q_houses_froms, .ref q_houses_tos, .ref q_houses_rings, .ref q_houses_pranks])), (q_houses_cells, .inl (g 0, 10, .inl o1.2.1)), (q_houses_froms, .inl (g 0, 10, .inl o1.2.2.1)), (q_houses_tos, .inl (g 0, 10, .inl o1.2.2.2.1)), (q_houses_rings, .inl (g 0, 10, .inl o1.2.2.2.2.1)), (q_houses_pranks, .inl (g 0, 10, .inl o1.2.2.2.2.2)), (q_halls, .inr (2, [.int o3.1, .ref q_halls_rows, .ref q_halls_firsts, .ref q_halls_lasts])), (q_halls_rows, .inl (g 0, 4, .inl o3.2.1)), (q_halls_firsts, .inl (g 0, 4, .inl o3.2.2.1)), (q_halls_lasts, .inl (g 0, 4, .inl o3.2.2.2)), (q_posts, .inr (6, [.int o5.1, .ref q_posts_cells, .ref q_posts_tolds])), (q_posts_cells, .inl (g 0, 4, .inl o5.2.1)), (q_posts_tolds, .inl (g 0, 4, .inl o5.2.2)), (q_blocks, .inl (g 0, 64, .inl o7)), (q_kinds, .inl (g 0, 4, .inl o9)), (q_p1, .inr (9, [.ref q_p1_houses, .ref q_p1_halls, .ref q_p1_posts, .ref q_p1_blocks, .ref q_p1_kinds, .int f_p1_hour, .int f_p1_day, .int f_p1_prankHouse, .int f_p1_bells, .int f_p1_echoes, .int f_p1_bellPranks])), (q_p1_houses, .inr (3, [.int f_p1_houses_size, .ref q_p1_houses_cells, .ref q_p1_houses_froms, .ref q_p1_houses_tos, .ref q_p1_houses_rings, .ref q_p1_houses_pranks])), (q_p1_houses_cells, .inl (g 0, 10, .inl a_p1_houses_cells)), (q_p1_houses_froms, .inl (g 0, 10, .inl a_p1_houses_froms)), (q_p1_houses_tos, .inl (g 0, 10, .inl a_p1_houses_tos)), (q_p1_houses_rings, .inl (g 0, 10, .inl a_p1_houses_rings)), (q_p1_houses_pranks, .inl (g 0, 10, .inl a_p1_houses_pranks)), (q_p1_halls, .inr (2, [.int f_p1_halls_size, .ref q_p1_halls_rows, .ref q_p1_halls_firsts, .ref q_p1_halls_lasts])), (q_p1_halls_rows, .inl (g 0, 4, .inl a_p1_halls_rows)), (q_p1_halls_firsts, .inl (g 0, 4, .inl a_p1_halls_firsts)), (q_p1_halls_lasts, .inl (g 0, 4, .inl a_p1_halls_lasts)), (q_p1_posts, .inr (6, [.int f_p1_posts_size, .ref q_p1_posts_cells, .ref q_p1_posts_tolds])), (q_p1_posts_cells, .inl (g 0, 4, .inl a_p1_posts_cells)), (q_p1_posts_tolds, .inl (g 0, 4, .inl a_p1_posts_tolds)), (q_p1_blocks, .inl (g 0, 64, .inl a_p1_blocks)), (q_p1_kinds, .inl (g 0, 4, .inl a_p1_kinds))]) X iw_X9 tyX9_ok nmX9 rfl qf_X9_X9_bellPranks (by decide) rfl rfl dX9_take_100 rfl rfl rfl (Nat.le_of_ble_eq_true rfl) rfl ?_
  cases h
  exact z_vretW X hQ hA hr dX9_take_103

def F_X7_put (n_p0 : Nat) (p1 : Int32) (p2 : Int32) (a_p0 : Nat → Int32) : Option ((Nat → Int32)) :=
  brn (p1 < 0) (some (a_p0)) (brn ((Int32.ofNat n_p0) ≤ p1) (some (a_p0)) (grd (inb p1 n_p0) (some ((upd a_p0 p1.toNatClampNeg p2)))))
theorem dX7_put_0 : decode cX7_put 0 = .ok (.iload_n 1, 1) := by decide +kernel
theorem dX7_put_1 : decode cX7_put 1 = .ok (.ifCond .lt 13, 3) := by decide +kernel
theorem dX7_put_4 : decode cX7_put 4 = .ok (.iload_n 1, 1) := by decide +kernel
theorem dX7_put_5 : decode cX7_put 5 = .ok (.aload_n 0, 1) := by decide +kernel
theorem dX7_put_6 : decode cX7_put 6 = .ok (.arraylength, 1) := by decide +kernel
theorem dX7_put_7 : decode cX7_put 7 = .ok (.if_icmp .ge 7, 3) := by decide +kernel
theorem dX7_put_10 : decode cX7_put 10 = .ok (.aload_n 0, 1) := by decide +kernel
theorem dX7_put_11 : decode cX7_put 11 = .ok (.iload_n 1, 1) := by decide +kernel
theorem dX7_put_12 : decode cX7_put 12 = .ok (.iload_n 2, 1) := by decide +kernel
theorem dX7_put_13 : decode cX7_put 13 = .ok (.iastore, 1) := by decide +kernel
theorem dX7_put_14 : decode cX7_put 14 = .ok (.return_, 1) := by decide +kernel
theorem k_X7_put : cardS yX7_put (Cond.code yX7_put cX7_put 3 none) 3 := ⟨qs_X7_put, qc_X7_put, qn_X7, by decide +kernel, by decide +kernel, by decide +kernel⟩
set_option maxHeartbeats 4000000 in
set_option maxRecDepth 100000 in
theorem c_X7_put (l : Launch) (D : va_G) (g : Nat → ClassId) (q_p0 : Nat) (n_p0 : Nat) (p1 p2 : Int32) (a_p0 : Nat → Int32) (o : (Nat → Int32)) (h : F_X7_put n_p0 p1 p2 a_p0 = some o) : MW l yX7_put (Cond.code yX7_put cX7_put 3 none) { frames := 0, cells := 0, slots := 0, locals := 0 } D g [.ref q_p0, .int p1, .int p2] [(q_p0, .inl (g 0, n_p0, .inl a_p0))] none [(q_p0, .inl (g 0, n_p0, .inl o))] := by
  refine z_wr_start (by decide) (Nat.le_of_ble_eq_true rfl) ?_
  intro p e s m args below meth c Q A X hr hQ hA
  refine z_lv (lv' := [(0, .ref q_p0), (1, .int p1), (2, .int p2)]) rfl ?_
  refine z_iload_n X 1 dX7_put_0 rfl rfl ?_
  refine z_if_lt X 14 dX7_put_1 (by decide) h (fun _ h => ?_) (fun _ h => ?_)
  · cases h
    exact z_vretW X hQ hA hr dX7_put_14
  · refine z_iload_n X 1 dX7_put_4 rfl rfl ?_
    refine z_aload_n X 0 dX7_put_5 rfl rfl ?_
    refine z_alen (q0 := 0) (v := Int32.ofNat n_p0) X IW_P 0 dX7_put_6 rfl rfl rfl ?_
    refine z_icmp_ge X 14 dX7_put_7 (by decide) h (fun _ h => ?_) (fun _ h => ?_)
    · cases h
      exact z_vretW X hQ hA hr dX7_put_14
    · refine z_aload_n X 0 dX7_put_10 rfl rfl ?_
      refine z_iload_n X 1 dX7_put_11 rfl rfl ?_
      refine z_iload_n X 2 dX7_put_12 rfl rfl ?_
      refine z_iast (q0 := 0) (ws' := [(q_p0, .inl (g 0, n_p0, .inl (upd a_p0 p1.toNatClampNeg p2)))]) X dX7_put_13 rfl h rfl (fun h => ?_)
      cases h
      exact z_vretW X hQ hA hr dX7_put_14

def F_X2_add (p1 : Int32) (p2 : Int32) (p3 : Int32) (f_size : Int32) (a_cells : Nat → Int32) (a_froms : Nat → Int32) (a_tos : Nat → Int32) (a_rings : Nat → Int32) (a_pranks : Nat → Int32) : Option (Int32 × Int32 × (Nat → Int32) × (Nat → Int32) × (Nat → Int32) × (Nat → Int32) × (Nat → Int32)) :=
  bnd (F_X7_put 10 f_size p1 a_cells) (fun o1 => bnd (F_X7_put 10 f_size p2 a_froms) (fun o3 => bnd (F_X7_put 10 f_size p3 a_tos) (fun o5 => bnd (F_X7_put 10 f_size (0 : Int32) a_rings) (fun o7 => bnd (F_X7_put 10 f_size (0 : Int32) a_pranks) (fun o9 => some (f_size, (f_size + (1 : Int32)), o1, o3, o5, o7, o9))))))
theorem dX2_add_0 : decode cX2_add 0 = .ok (.aload_n 0, 1) := by decide +kernel
theorem dX2_add_1 : decode cX2_add 1 = .ok (.getfield 27, 3) := by decide +kernel
theorem dX2_add_4 : decode cX2_add 4 = .ok (.istore 4, 2) := by decide +kernel
theorem dX2_add_6 : decode cX2_add 6 = .ok (.aload_n 0, 1) := by decide +kernel
theorem dX2_add_7 : decode cX2_add 7 = .ok (.getfield 9, 3) := by decide +kernel
theorem dX2_add_10 : decode cX2_add 10 = .ok (.iload 4, 2) := by decide +kernel
theorem dX2_add_12 : decode cX2_add 12 = .ok (.iload_n 1, 1) := by decide +kernel
theorem dX2_add_13 : decode cX2_add 13 = .ok (.invokestatic 41, 3) := by decide +kernel
theorem dX2_add_16 : decode cX2_add 16 = .ok (.aload_n 0, 1) := by decide +kernel
theorem dX2_add_17 : decode cX2_add 17 = .ok (.getfield 15, 3) := by decide +kernel
theorem dX2_add_20 : decode cX2_add 20 = .ok (.iload 4, 2) := by decide +kernel
theorem dX2_add_22 : decode cX2_add 22 = .ok (.iload_n 2, 1) := by decide +kernel
theorem dX2_add_23 : decode cX2_add 23 = .ok (.invokestatic 41, 3) := by decide +kernel
theorem dX2_add_26 : decode cX2_add 26 = .ok (.aload_n 0, 1) := by decide +kernel
theorem dX2_add_27 : decode cX2_add 27 = .ok (.getfield 18, 3) := by decide +kernel
theorem dX2_add_30 : decode cX2_add 30 = .ok (.iload 4, 2) := by decide +kernel
theorem dX2_add_32 : decode cX2_add 32 = .ok (.iload_n 3, 1) := by decide +kernel
theorem dX2_add_33 : decode cX2_add 33 = .ok (.invokestatic 41, 3) := by decide +kernel
theorem dX2_add_36 : decode cX2_add 36 = .ok (.aload_n 0, 1) := by decide +kernel
theorem dX2_add_37 : decode cX2_add 37 = .ok (.getfield 21, 3) := by decide +kernel
theorem dX2_add_40 : decode cX2_add 40 = .ok (.iload 4, 2) := by decide +kernel
theorem dX2_add_42 : decode cX2_add 42 = .ok (.iconst 0, 1) := by decide +kernel
theorem dX2_add_43 : decode cX2_add 43 = .ok (.invokestatic 41, 3) := by decide +kernel
theorem dX2_add_46 : decode cX2_add 46 = .ok (.aload_n 0, 1) := by decide +kernel
theorem dX2_add_47 : decode cX2_add 47 = .ok (.getfield 24, 3) := by decide +kernel
theorem dX2_add_50 : decode cX2_add 50 = .ok (.iload 4, 2) := by decide +kernel
theorem dX2_add_52 : decode cX2_add 52 = .ok (.iconst 0, 1) := by decide +kernel
theorem dX2_add_53 : decode cX2_add 53 = .ok (.invokestatic 41, 3) := by decide +kernel
theorem dX2_add_56 : decode cX2_add 56 = .ok (.aload_n 0, 1) := by decide +kernel
theorem dX2_add_57 : decode cX2_add 57 = .ok (.dup, 1) := by decide +kernel
theorem dX2_add_58 : decode cX2_add 58 = .ok (.getfield 27, 3) := by decide +kernel
theorem dX2_add_61 : decode cX2_add 61 = .ok (.iconst 1, 1) := by decide +kernel
theorem dX2_add_62 : decode cX2_add 62 = .ok (.iadd, 1) := by decide +kernel
theorem dX2_add_63 : decode cX2_add 63 = .ok (.putfield 27, 3) := by decide +kernel
theorem dX2_add_66 : decode cX2_add 66 = .ok (.iload 4, 2) := by decide +kernel
theorem dX2_add_68 : decode cX2_add 68 = .ok (.ireturn, 1) := by decide +kernel
theorem k_X2_add : cardV yX2_add (Cond.code yX2_add cX2_add 5 (some .int)) 3 := ⟨⟨qi_X2_add, qv_X2_add⟩, qc_X2_add, qn_X2, by decide +kernel, by decide +kernel, by decide +kernel⟩
set_option maxHeartbeats 4000000 in
set_option maxRecDepth 100000 in
theorem c_X2_add (l : Launch) (D : va_G) (g : Nat → ClassId) (q_this q_cells q_froms q_tos q_rings q_pranks : Nat) (p1 p2 p3 : Int32) (f_size : Int32) (a_cells : Nat → Int32) (a_froms : Nat → Int32) (a_tos : Nat → Int32) (a_rings : Nat → Int32) (a_pranks : Nat → Int32) (o : Int32 × Int32 × (Nat → Int32) × (Nat → Int32) × (Nat → Int32) × (Nat → Int32) × (Nat → Int32)) (h : F_X2_add p1 p2 p3 f_size a_cells a_froms a_tos a_rings a_pranks = some o) : MW l yX2_add (Cond.code yX2_add cX2_add 5 (some .int)) { frames := 1, cells := 0, slots := 0, locals := 22 } D g [.ref q_this, .int p1, .int p2, .int p3] [(q_this, .inr (3, [.int f_size, .ref q_cells, .ref q_froms, .ref q_tos, .ref q_rings, .ref q_pranks])), (q_cells, .inl (g 0, 10, .inl a_cells)), (q_froms, .inl (g 0, 10, .inl a_froms)), (q_tos, .inl (g 0, 10, .inl a_tos)), (q_rings, .inl (g 0, 10, .inl a_rings)), (q_pranks, .inl (g 0, 10, .inl a_pranks))] (some (.int o.1)) [(q_this, .inr (3, [.int o.2.1, .ref q_cells, .ref q_froms, .ref q_tos, .ref q_rings, .ref q_pranks])), (q_cells, .inl (g 0, 10, .inl o.2.2.1)), (q_froms, .inl (g 0, 10, .inl o.2.2.2.1)), (q_tos, .inl (g 0, 10, .inl o.2.2.2.2.1)), (q_rings, .inl (g 0, 10, .inl o.2.2.2.2.2.1)), (q_pranks, .inl (g 0, 10, .inl o.2.2.2.2.2.2))] := by
  refine z_wr_start (by decide) (Nat.le_of_ble_eq_true rfl) ?_
  intro p e s m args below meth c Q A X hr hQ hA
  refine z_lv (lv' := [(0, .ref q_this), (1, .int p1), (2, .int p2), (3, .int p3)]) rfl ?_
  refine z_aload_n X 0 dX2_add_0 rfl rfl ?_
  refine z_get (q0 := 0) (k := 0) (ci := 3) X IW_P iw_X2 rfl qf_X2_X2_size (by decide) dX2_add_1 rfl rfl ?_
  refine z_istore X [(4, .int f_size), (0, .ref q_this), (1, .int p1), (2, .int p2), (3, .int p3)] dX2_add_4 (by decide) rfl ?_
  refine z_aload_n X 1 dX2_add_6 rfl rfl ?_
  refine z_get (q0 := 0) (k := 1) (ci := 3) X IW_P iw_X2 rfl qf_X2_X2_cells (by decide) dX2_add_7 rfl rfl ?_
  refine z_iload X 0 dX2_add_10 rfl ?_
  refine z_iload_n X 2 dX2_add_12 rfl rfl ?_
  obtain ⟨o1, e2, h⟩ := bnd_p h
  refine z_wrS (rest := []) (ws' := [(q_this, .inr (3, [.int f_size, .ref q_cells, .ref q_froms, .ref q_tos, .ref q_rings, .ref q_pranks])), (q_cells, .inl (g 0, 10, .inl o1)), (q_froms, .inl (g 0, 10, .inl a_froms)), (q_tos, .inl (g 0, 10, .inl a_tos)), (q_rings, .inl (g 0, 10, .inl a_rings)), (q_pranks, .inl (g 0, 10, .inl a_pranks))]) (wr := [(q_this, .inr (3, [.int f_size, .ref q_cells, .ref q_froms, .ref q_tos, .ref q_rings, .ref q_pranks])), (q_froms, .inl (g 0, 10, .inl a_froms)), (q_tos, .inl (g 0, 10, .inl a_tos)), (q_rings, .inl (g 0, 10, .inl a_rings)), (q_pranks, .inl (g 0, 10, .inl a_pranks))]) (as := [q_this, q_cells, q_froms, q_tos, q_rings, q_pranks]) X k_X7_put (c_X7_put l D g q_cells 10 f_size p1 a_cells o1 e2) ql_X2_X7_put dX2_add_13 [1] [0, 2, 3, 4, 5] ⟨rfl, rfl, rfl, rfl, rfl, rfl, rfl, rfl⟩ rfl rfl ⟨Nat.le_of_ble_eq_true rfl, Nat.le_of_ble_eq_true rfl, rfl, rfl, Nat.le_of_ble_eq_true rfl, Nat.le_of_ble_eq_true rfl⟩ (Nat.le_of_ble_eq_true rfl) ?_
  refine z_aload_n X 1 dX2_add_16 rfl rfl ?_
  refine z_get (q0 := 0) (k := 2) (ci := 3) X IW_P iw_X2 rfl qf_X2_X2_froms (by decide) dX2_add_17 rfl rfl ?_
  refine z_iload X 0 dX2_add_20 rfl ?_
  refine z_iload_n X 3 dX2_add_22 rfl rfl ?_
  obtain ⟨o3, e4, h⟩ := bnd_p h
  refine z_wrS (rest := []) (ws' := [(q_this, .inr (3, [.int f_size, .ref q_cells, .ref q_froms, .ref q_tos, .ref q_rings, .ref q_pranks])), (q_cells, .inl (g 0, 10, .inl o1)), (q_froms, .inl (g 0, 10, .inl o3)), (q_tos, .inl (g 0, 10, .inl a_tos)), (q_rings, .inl (g 0, 10, .inl a_rings)), (q_pranks, .inl (g 0, 10, .inl a_pranks))]) (wr := [(q_this, .inr (3, [.int f_size, .ref q_cells, .ref q_froms, .ref q_tos, .ref q_rings, .ref q_pranks])), (q_cells, .inl (g 0, 10, .inl o1)), (q_tos, .inl (g 0, 10, .inl a_tos)), (q_rings, .inl (g 0, 10, .inl a_rings)), (q_pranks, .inl (g 0, 10, .inl a_pranks))]) (as := [q_this, q_cells, q_froms, q_tos, q_rings, q_pranks]) X k_X7_put (c_X7_put l D g q_froms 10 f_size p2 a_froms o3 e4) ql_X2_X7_put dX2_add_23 [2] [0, 1, 3, 4, 5] ⟨rfl, rfl, rfl, rfl, rfl, rfl, rfl, rfl⟩ rfl rfl ⟨Nat.le_of_ble_eq_true rfl, Nat.le_of_ble_eq_true rfl, rfl, rfl, Nat.le_of_ble_eq_true rfl, Nat.le_of_ble_eq_true rfl⟩ (Nat.le_of_ble_eq_true rfl) ?_
  refine z_aload_n X 1 dX2_add_26 rfl rfl ?_
  refine z_get (q0 := 0) (k := 3) (ci := 3) X IW_P iw_X2 rfl qf_X2_X2_tos (by decide) dX2_add_27 rfl rfl ?_
  refine z_iload X 0 dX2_add_30 rfl ?_
  refine z_iload_n X 4 dX2_add_32 rfl rfl ?_
  obtain ⟨o5, e6, h⟩ := bnd_p h
  refine z_wrS (rest := []) (ws' := [(q_this, .inr (3, [.int f_size, .ref q_cells, .ref q_froms, .ref q_tos, .ref q_rings, .ref q_pranks])), (q_cells, .inl (g 0, 10, .inl o1)), (q_froms, .inl (g 0, 10, .inl o3)), (q_tos, .inl (g 0, 10, .inl o5)), (q_rings, .inl (g 0, 10, .inl a_rings)), (q_pranks, .inl (g 0, 10, .inl a_pranks))]) (wr := [(q_this, .inr (3, [.int f_size, .ref q_cells, .ref q_froms, .ref q_tos, .ref q_rings, .ref q_pranks])), (q_cells, .inl (g 0, 10, .inl o1)), (q_froms, .inl (g 0, 10, .inl o3)), (q_rings, .inl (g 0, 10, .inl a_rings)), (q_pranks, .inl (g 0, 10, .inl a_pranks))]) (as := [q_this, q_cells, q_froms, q_tos, q_rings, q_pranks]) X k_X7_put (c_X7_put l D g q_tos 10 f_size p3 a_tos o5 e6) ql_X2_X7_put dX2_add_33 [3] [0, 1, 2, 4, 5] ⟨rfl, rfl, rfl, rfl, rfl, rfl, rfl, rfl⟩ rfl rfl ⟨Nat.le_of_ble_eq_true rfl, Nat.le_of_ble_eq_true rfl, rfl, rfl, Nat.le_of_ble_eq_true rfl, Nat.le_of_ble_eq_true rfl⟩ (Nat.le_of_ble_eq_true rfl) ?_
  refine z_aload_n X 1 dX2_add_36 rfl rfl ?_
  refine z_get (q0 := 0) (k := 4) (ci := 3) X IW_P iw_X2 rfl qf_X2_X2_rings (by decide) dX2_add_37 rfl rfl ?_
  refine z_iload X 0 dX2_add_40 rfl ?_
  refine z_iconst X (0 : Int32) dX2_add_42 (by decide) ?_
  obtain ⟨o7, e8, h⟩ := bnd_p h
  refine z_wrS (rest := []) (ws' := [(q_this, .inr (3, [.int f_size, .ref q_cells, .ref q_froms, .ref q_tos, .ref q_rings, .ref q_pranks])), (q_cells, .inl (g 0, 10, .inl o1)), (q_froms, .inl (g 0, 10, .inl o3)), (q_tos, .inl (g 0, 10, .inl o5)), (q_rings, .inl (g 0, 10, .inl o7)), (q_pranks, .inl (g 0, 10, .inl a_pranks))]) (wr := [(q_this, .inr (3, [.int f_size, .ref q_cells, .ref q_froms, .ref q_tos, .ref q_rings, .ref q_pranks])), (q_cells, .inl (g 0, 10, .inl o1)), (q_froms, .inl (g 0, 10, .inl o3)), (q_tos, .inl (g 0, 10, .inl o5)), (q_pranks, .inl (g 0, 10, .inl a_pranks))]) (as := [q_this, q_cells, q_froms, q_tos, q_rings, q_pranks]) X k_X7_put (c_X7_put l D g q_rings 10 f_size (0 : Int32) a_rings o7 e8) ql_X2_X7_put dX2_add_43 [4] [0, 1, 2, 3, 5] ⟨rfl, rfl, rfl, rfl, rfl, rfl, rfl, rfl⟩ rfl rfl ⟨Nat.le_of_ble_eq_true rfl, Nat.le_of_ble_eq_true rfl, rfl, rfl, Nat.le_of_ble_eq_true rfl, Nat.le_of_ble_eq_true rfl⟩ (Nat.le_of_ble_eq_true rfl) ?_
  refine z_aload_n X 1 dX2_add_46 rfl rfl ?_
  refine z_get (q0 := 0) (k := 5) (ci := 3) X IW_P iw_X2 rfl qf_X2_X2_pranks (by decide) dX2_add_47 rfl rfl ?_
  refine z_iload X 0 dX2_add_50 rfl ?_
  refine z_iconst X (0 : Int32) dX2_add_52 (by decide) ?_
  obtain ⟨o9, e10, h⟩ := bnd_p h
  refine z_wrS (rest := []) (ws' := [(q_this, .inr (3, [.int f_size, .ref q_cells, .ref q_froms, .ref q_tos, .ref q_rings, .ref q_pranks])), (q_cells, .inl (g 0, 10, .inl o1)), (q_froms, .inl (g 0, 10, .inl o3)), (q_tos, .inl (g 0, 10, .inl o5)), (q_rings, .inl (g 0, 10, .inl o7)), (q_pranks, .inl (g 0, 10, .inl o9))]) (wr := [(q_this, .inr (3, [.int f_size, .ref q_cells, .ref q_froms, .ref q_tos, .ref q_rings, .ref q_pranks])), (q_cells, .inl (g 0, 10, .inl o1)), (q_froms, .inl (g 0, 10, .inl o3)), (q_tos, .inl (g 0, 10, .inl o5)), (q_rings, .inl (g 0, 10, .inl o7))]) (as := [q_this, q_cells, q_froms, q_tos, q_rings, q_pranks]) X k_X7_put (c_X7_put l D g q_pranks 10 f_size (0 : Int32) a_pranks o9 e10) ql_X2_X7_put dX2_add_53 [5] [0, 1, 2, 3, 4] ⟨rfl, rfl, rfl, rfl, rfl, rfl, rfl, rfl⟩ rfl rfl ⟨Nat.le_of_ble_eq_true rfl, Nat.le_of_ble_eq_true rfl, rfl, rfl, Nat.le_of_ble_eq_true rfl, Nat.le_of_ble_eq_true rfl⟩ (Nat.le_of_ble_eq_true rfl) ?_
  refine z_aload_n X 1 dX2_add_56 rfl rfl ?_
  refine z_dup X dX2_add_57 rfl ?_
  refine z_get (q0 := 0) (k := 0) (ci := 3) X IW_P iw_X2 rfl qf_X2_X2_size (by decide) dX2_add_58 rfl rfl ?_
  refine z_iconst X (1 : Int32) dX2_add_61 (by decide) ?_
  refine z_iadd X dX2_add_62 ?_
  refine z_put (q0 := 0) (k := 0) (ci := 3) (ws' := [(q_this, .inr (3, [.int (f_size + (1 : Int32)), .ref q_cells, .ref q_froms, .ref q_tos, .ref q_rings, .ref q_pranks])), (q_cells, .inl (g 0, 10, .inl o1)), (q_froms, .inl (g 0, 10, .inl o3)), (q_tos, .inl (g 0, 10, .inl o5)), (q_rings, .inl (g 0, 10, .inl o7)), (q_pranks, .inl (g 0, 10, .inl o9))]) X iw_X2 tyX2_ok nmX2 rfl qf_X2_X2_size (by decide) rfl rfl dX2_add_63 rfl rfl rfl (Nat.le_of_ble_eq_true rfl) rfl ?_
  refine z_iload X 0 dX2_add_66 rfl ?_
  cases h
  exact z_iretW X hQ hA hr dX2_add_68
