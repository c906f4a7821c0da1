def F_X11_demandListed (p0 : Int32) : Option (Nat) :=
  brn (p0 = 0) (some (1)) (some (0))
theorem dX11_demandListed_0 : decode cX11_demandListed 0 = .ok (.iload_n 0, 1) := by decide +kernel
theorem dX11_demandListed_1 : decode cX11_demandListed 1 = .ok (.ifCond .ne 14, 3) := by decide +kernel
theorem dX11_demandListed_4 : decode cX11_demandListed 4 = .ok (.new 365, 3) := by decide +kernel
theorem dX11_demandListed_7 : decode cX11_demandListed 7 = .ok (.dup, 1) := by decide +kernel
theorem dX11_demandListed_8 : decode cX11_demandListed 8 = .ok (.ldc_w 367, 3) := by decide +kernel
theorem dX11_demandListed_11 : decode cX11_demandListed 11 = .ok (.invokespecial 369, 3) := by decide +kernel
theorem dX11_demandListed_14 : decode cX11_demandListed 14 = .ok (.athrow, 1) := by decide +kernel
theorem dX11_demandListed_15 : decode cX11_demandListed 15 = .ok (.return_, 1) := by decide +kernel
theorem k_X11_demandListed : cardS yX11_demandListed (Cond.code yX11_demandListed cX11_demandListed 1 none) 1 := ⟨qs_X11_demandListed, qc_X11_demandListed, qn_X11, by decide +kernel, by decide +kernel, by decide +kernel⟩
set_option maxHeartbeats 4000000 in
set_option maxRecDepth 100000 in
theorem c_X11_demandListed (l : Launch) (hfl : l.stackTraces = false) (ak av : Nat → Nat) (aS : Nat) (D : va_G) (g : Nat → ClassId) (p0 : Int32) (o : Nat) (h : F_X11_demandListed p0 = some o) : MX l yX11_demandListed (Cond.code yX11_demandListed cX11_demandListed 1 none) { frames := 7, cells := 1, slots := 6, locals := 110 } ak av aS D g [.int p0] [] o none [] 1 6 := by
  refine z_ex_start (by decide) (Nat.le_of_ble_eq_true rfl) ?_
  intro p e s m args below meth c Q A X hr hE hA hno hQ
  refine z_lv (lv' := [(0, .int p0)]) rfl ?_
  refine z_iload_n X 0 dX11_demandListed_0 rfl rfl ?_
  refine z_if_ne X 15 dX11_demandListed_1 (by decide) h (fun _ h => ?_) (fun _ h => ?_)
  · cases h
    exact z_throw (names := ["java/lang/RuntimeException", "java/lang/Exception"]) (si := 0) X hE hno hfl hQ (by decide) (by decide +kernel) (by decide +kernel) rfl qk_X11_IndexOutOfBoundsException qn_IndexOutOfBoundsException (by decide) rfl rfl xt_1 xg_1 dX11_demandListed_4 dX11_demandListed_7 dX11_demandListed_8 dX11_demandListed_11 dX11_demandListed_14 (by decide) (Nat.le_of_ble_eq_true rfl) (Nat.le_of_ble_eq_true rfl) (Nat.le_of_ble_eq_true rfl) (Nat.le_of_ble_eq_true rfl) (Nat.le_of_ble_eq_true rfl)
  · cases h
    exact z_vretX X hQ (Nat.le_of_ble_eq_true rfl) (Nat.le_of_ble_eq_true rfl) hr dX11_demandListed_15

def F_X11_demandProper (p0 : Int32) : Option (Nat) :=
  brn (p0 = 0) (some (2)) (some (0))
theorem dX11_demandProper_0 : decode cX11_demandProper 0 = .ok (.iload_n 0, 1) := by decide +kernel
theorem dX11_demandProper_1 : decode cX11_demandProper 1 = .ok (.ifCond .ne 14, 3) := by decide +kernel
theorem dX11_demandProper_4 : decode cX11_demandProper 4 = .ok (.new 370, 3) := by decide +kernel
theorem dX11_demandProper_7 : decode cX11_demandProper 7 = .ok (.dup, 1) := by decide +kernel
theorem dX11_demandProper_8 : decode cX11_demandProper 8 = .ok (.ldc_w 372, 3) := by decide +kernel
theorem dX11_demandProper_11 : decode cX11_demandProper 11 = .ok (.invokespecial 374, 3) := by decide +kernel
theorem dX11_demandProper_14 : decode cX11_demandProper 14 = .ok (.athrow, 1) := by decide +kernel
theorem dX11_demandProper_15 : decode cX11_demandProper 15 = .ok (.return_, 1) := by decide +kernel
theorem k_X11_demandProper : cardS yX11_demandProper (Cond.code yX11_demandProper cX11_demandProper 1 none) 1 := ⟨qs_X11_demandProper, qc_X11_demandProper, qn_X11, by decide +kernel, by decide +kernel, by decide +kernel⟩
set_option maxHeartbeats 4000000 in
set_option maxRecDepth 100000 in
theorem c_X11_demandProper (l : Launch) (hfl : l.stackTraces = false) (ak av : Nat → Nat) (aS : Nat) (D : va_G) (g : Nat → ClassId) (p0 : Int32) (o : Nat) (h : F_X11_demandProper p0 = some o) : MX l yX11_demandProper (Cond.code yX11_demandProper cX11_demandProper 1 none) { frames := 7, cells := 1, slots := 6, locals := 110 } ak av aS D g [.int p0] [] o none [] 1 6 := by
  refine z_ex_start (by decide) (Nat.le_of_ble_eq_true rfl) ?_
  intro p e s m args below meth c Q A X hr hE hA hno hQ
  refine z_lv (lv' := [(0, .int p0)]) rfl ?_
  refine z_iload_n X 0 dX11_demandProper_0 rfl rfl ?_
  refine z_if_ne X 15 dX11_demandProper_1 (by decide) h (fun _ h => ?_) (fun _ h => ?_)
  · cases h
    exact z_throw (names := ["java/lang/RuntimeException", "java/lang/Exception"]) (si := 1) X hE hno hfl hQ (by decide) (by decide +kernel) (by decide +kernel) rfl qk_X11_IllegalArgumentException qn_IllegalArgumentException (by decide) rfl rfl xt_2 xg_2 dX11_demandProper_4 dX11_demandProper_7 dX11_demandProper_8 dX11_demandProper_11 dX11_demandProper_14 (by decide) (Nat.le_of_ble_eq_true rfl) (Nat.le_of_ble_eq_true rfl) (Nat.le_of_ble_eq_true rfl) (Nat.le_of_ble_eq_true rfl) (Nat.le_of_ble_eq_true rfl)
  · cases h
    exact z_vretX X hQ (Nat.le_of_ble_eq_true rfl) (Nat.le_of_ble_eq_true rfl) hr dX11_demandProper_15

def J_X11_demandFine_23 (p0 : Int32) (t0 : Int32) : Option (Nat) :=
  bnd (F_X11_demandProper t0) (fun o4 => brn (o4 = 0) (brn (p0 = (3 : Int32)) (some (3)) (some (0))) (some (o4)))

def J_X11_demandFine_10 (p0 : Int32) (t0 : Int32) : Option (Nat) :=
  bnd (F_X11_demandListed t0) (fun o1 => brn (o1 = 0) (brn (p0 = (2 : Int32)) (J_X11_demandFine_23 p0 (0 : Int32)) (J_X11_demandFine_23 p0 (1 : Int32))) (some (o1)))

def F_X11_demandFine (p0 : Int32) : Option (Nat) :=
  brn (p0 = (1 : Int32)) (J_X11_demandFine_10 p0 (0 : Int32)) (J_X11_demandFine_10 p0 (1 : Int32))
theorem dX11_demandFine_0 : decode cX11_demandFine 0 = .ok (.iload_n 0, 1) := by decide +kernel
theorem dX11_demandFine_1 : decode cX11_demandFine 1 = .ok (.iconst 1, 1) := by decide +kernel
theorem dX11_demandFine_2 : decode cX11_demandFine 2 = .ok (.if_icmp .eq 7, 3) := by decide +kernel
theorem dX11_demandFine_5 : decode cX11_demandFine 5 = .ok (.iconst 1, 1) := by decide +kernel
theorem dX11_demandFine_6 : decode cX11_demandFine 6 = .ok (.goto 4, 3) := by decide +kernel
theorem dX11_demandFine_9 : decode cX11_demandFine 9 = .ok (.iconst 0, 1) := by decide +kernel
theorem dX11_demandFine_10 : decode cX11_demandFine 10 = .ok (.invokestatic 87, 3) := by decide +kernel
theorem dX11_demandFine_13 : decode cX11_demandFine 13 = .ok (.iload_n 0, 1) := by decide +kernel
theorem dX11_demandFine_14 : decode cX11_demandFine 14 = .ok (.iconst 2, 1) := by decide +kernel
theorem dX11_demandFine_15 : decode cX11_demandFine 15 = .ok (.if_icmp .eq 7, 3) := by decide +kernel
theorem dX11_demandFine_18 : decode cX11_demandFine 18 = .ok (.iconst 1, 1) := by decide +kernel
theorem dX11_demandFine_19 : decode cX11_demandFine 19 = .ok (.goto 4, 3) := by decide +kernel
theorem dX11_demandFine_22 : decode cX11_demandFine 22 = .ok (.iconst 0, 1) := by decide +kernel
theorem dX11_demandFine_23 : decode cX11_demandFine 23 = .ok (.invokestatic 124, 3) := by decide +kernel
theorem dX11_demandFine_26 : decode cX11_demandFine 26 = .ok (.iload_n 0, 1) := by decide +kernel
theorem dX11_demandFine_27 : decode cX11_demandFine 27 = .ok (.iconst 3, 1) := by decide +kernel
theorem dX11_demandFine_28 : decode cX11_demandFine 28 = .ok (.if_icmp .ne 14, 3) := by decide +kernel
theorem dX11_demandFine_31 : decode cX11_demandFine 31 = .ok (.new 358, 3) := by decide +kernel
theorem dX11_demandFine_34 : decode cX11_demandFine 34 = .ok (.dup, 1) := by decide +kernel
theorem dX11_demandFine_35 : decode cX11_demandFine 35 = .ok (.ldc_w 360, 3) := by decide +kernel
theorem dX11_demandFine_38 : decode cX11_demandFine 38 = .ok (.invokespecial 362, 3) := by decide +kernel
theorem dX11_demandFine_41 : decode cX11_demandFine 41 = .ok (.athrow, 1) := by decide +kernel
theorem dX11_demandFine_42 : decode cX11_demandFine 42 = .ok (.return_, 1) := by decide +kernel
theorem k_X11_demandFine : cardS yX11_demandFine (Cond.code yX11_demandFine cX11_demandFine 1 none) 1 := ⟨qs_X11_demandFine, qc_X11_demandFine, qn_X11, by decide +kernel, by decide +kernel, by decide +kernel⟩
set_option maxHeartbeats 4000000 in
set_option maxRecDepth 100000 in
theorem c_X11_demandFine (l : Launch) (hfl : l.stackTraces = false) (ak av : Nat → Nat) (aS : Nat) (D : va_G) (g : Nat → ClassId) (p0 : Int32) (o : Nat) (h : F_X11_demandFine p0 = some o) : MX l yX11_demandFine (Cond.code yX11_demandFine cX11_demandFine 1 none) { frames := 8, cells := 3, slots := 18, locals := 130 } ak av aS D g [.int p0] [] o none [] 3 18 := by
  refine z_ex_start (by decide) (Nat.le_of_ble_eq_true rfl) ?_
  intro p e s m args below meth c Q A X hr hE hA hno hQ
  refine z_lv (lv' := [(0, .int p0)]) rfl ?_
  have H23 : ∀ (t0 : Int32), J_X11_demandFine_23 p0 t0 = some o → Z p l e { frames := 8, cells := 3, slots := 18, locals := 130 } s m args below meth c Q 1 1 6 (IW D A s []) 23 [(0, .int p0)] [.int t0] := by
    intro t0 h
    obtain ⟨o4, e5, h⟩ := bnd_p h
    refine z_exS (rest := []) (ws' := []) X hE hA k_X11_demandProper (c_X11_demandProper l hfl ak av aS D g t0 o4 e5) ql_X11_X11_demandProper dX11_demandFine_23 bkc_nil bk_nil rfl rfl ⟨Nat.le_of_ble_eq_true rfl, Nat.le_of_ble_eq_true rfl, rfl, rfl, Nat.le_of_ble_eq_true rfl, Nat.le_of_ble_eq_true rfl⟩ (Nat.le_of_ble_eq_true rfl) (fun x6 => ?_) (fun x6 => ?_)
    · have h := brn_t h x6
      refine z_iload_n X 0 dX11_demandFine_26 rfl rfl ?_
      refine z_iconst X (3 : Int32) dX11_demandFine_27 (by decide) ?_
      refine z_icmp_ne X 42 dX11_demandFine_28 (by decide) h (fun _ h => ?_) (fun _ h => ?_)
      · cases h
        exact z_throw (names := ["java/lang/RuntimeException", "java/lang/Exception"]) (si := 2) X hE hno hfl hQ (by decide) (by decide +kernel) (by decide +kernel) rfl qk_X11_UnsupportedOperationException qn_UnsupportedOperationException (by decide) rfl rfl xt_3 xg_3 dX11_demandFine_31 dX11_demandFine_34 dX11_demandFine_35 dX11_demandFine_38 dX11_demandFine_41 (by decide) (Nat.le_of_ble_eq_true rfl) (Nat.le_of_ble_eq_true rfl) (Nat.le_of_ble_eq_true rfl) (Nat.le_of_ble_eq_true rfl) (Nat.le_of_ble_eq_true rfl)
      · cases h
        exact z_vretX X hQ (Nat.le_of_ble_eq_true rfl) (Nat.le_of_ble_eq_true rfl) hr dX11_demandFine_42
    · have h := brn_f h x6
      cases h
      exact zt_out (lv := [(0, .int p0)]) X hno hQ x6 (Nat.le_of_ble_eq_true rfl) (Nat.le_of_ble_eq_true rfl)
  have H10 : ∀ (t0 : Int32), J_X11_demandFine_10 p0 t0 = some o → Z p l e { frames := 8, cells := 3, slots := 18, locals := 130 } s m args below meth c Q 1 0 0 (IW D A s []) 10 [(0, .int p0)] [.int t0] := by
    intro t0 h
    obtain ⟨o1, e2, h⟩ := bnd_p h
    refine z_exS (rest := []) (ws' := []) X hE hA k_X11_demandListed (c_X11_demandListed l hfl ak av aS D g t0 o1 e2) ql_X11_X11_demandListed dX11_demandFine_10 bkc_nil bk_nil rfl rfl ⟨Nat.le_of_ble_eq_true rfl, Nat.le_of_ble_eq_true rfl, rfl, rfl, Nat.le_of_ble_eq_true rfl, Nat.le_of_ble_eq_true rfl⟩ (Nat.le_of_ble_eq_true rfl) (fun x3 => ?_) (fun x3 => ?_)
    · have h := brn_t h x3
      refine z_iload_n X 0 dX11_demandFine_13 rfl rfl ?_
      refine z_iconst X (2 : Int32) dX11_demandFine_14 (by decide) ?_
      refine z_icmp_eq X 22 dX11_demandFine_15 (by decide) h (fun _ h => ?_) (fun _ h => ?_)
      · refine z_iconst X (0 : Int32) dX11_demandFine_22 (by decide) ?_
        refine z_widen (k := 1) (n := 6) (Nat.le_of_ble_eq_true rfl) (Nat.le_of_ble_eq_true rfl) ?_
        exact H23 (0 : Int32) h
      · refine z_iconst X (1 : Int32) dX11_demandFine_18 (by decide) ?_
        refine z_goto X 23 dX11_demandFine_19 (by decide) ?_
        refine z_widen (k := 1) (n := 6) (Nat.le_of_ble_eq_true rfl) (Nat.le_of_ble_eq_true rfl) ?_
        exact H23 (1 : Int32) h
    · have h := brn_f h x3
      cases h
      exact zt_out (lv := [(0, .int p0)]) X hno hQ x3 (Nat.le_of_ble_eq_true rfl) (Nat.le_of_ble_eq_true rfl)
  refine z_iload_n X 0 dX11_demandFine_0 rfl rfl ?_
  refine z_iconst X (1 : Int32) dX11_demandFine_1 (by decide) ?_
  refine z_icmp_eq X 9 dX11_demandFine_2 (by decide) h (fun _ h => ?_) (fun _ h => ?_)
  · refine z_iconst X (0 : Int32) dX11_demandFine_9 (by decide) ?_
    refine z_widen (k := 0) (n := 0) (Nat.le_of_ble_eq_true rfl) (Nat.le_of_ble_eq_true rfl) ?_
    exact H10 (0 : Int32) h
  · refine z_iconst X (1 : Int32) dX11_demandFine_5 (by decide) ?_
    refine z_goto X 10 dX11_demandFine_6 (by decide) ?_
    refine z_widen (k := 0) (n := 0) (Nat.le_of_ble_eq_true rfl) (Nat.le_of_ble_eq_true rfl) ?_
    exact H10 (1 : Int32) h

def F_X11_houseOf (p1 : Int32) (p2 : Int32) (f_town_hour : Int32) (f_town_houses_size : Int32) (a_town_houses_cells : Nat → Int32) (a_town_houses_froms : Nat → Int32) (a_town_houses_tos : Nat → Int32) (a_town_houses_rings : Nat → Int32) (a_town_houses_pranks : Nat → Int32) (f_town_halls_size : Int32) (a_town_halls_rows : Nat → Int32) (a_town_halls_firsts : Nat → Int32) (a_town_halls_lasts : Nat → Int32) : Option (Nat × Int32) :=
  bnd (F_X2_has p1 f_town_houses_size) (fun o1 => bnd (F_X11_demandListed o1) (fun o3 => brn (o3 = 0) (bnd (F_X11_isWithin p2 (0 : Int32) (7 : Int32)) (fun o6 => bnd (F_X11_demandProper o6) (fun o8 => brn (o8 = 0) (brn (p2 = (0 : Int32)) (bnd (F_X2_cellAt p1 a_town_houses_cells) (fun o12 => some (0, o12))) (brn (p2 = (1 : Int32)) (bnd (F_X2_fromAt p1 a_town_houses_froms) (fun o15 => some (0, o15))) (brn (p2 = (2 : Int32)) (bnd (F_X2_toAt p1 a_town_houses_tos) (fun o18 => some (0, o18))) (brn (p2 = (3 : Int32)) (bnd (F_X2_ringsAt p1 a_town_houses_rings) (fun o21 => some (0, o21))) (brn (p2 = (4 : Int32)) (bnd (F_X2_pranksAt p1 a_town_houses_pranks) (fun o24 => some (0, o24))) (brn (p2 = (5 : Int32)) (bnd (F_X2_cellAt p1 a_town_houses_cells) (fun o27 => bnd (F_X1_around o27 f_town_halls_size a_town_halls_rows a_town_halls_firsts a_town_halls_lasts) (fun o29 => some (0, o29)))) (brn (p2 = (6 : Int32)) (bnd (F_X2_isAsleep p1 f_town_hour a_town_houses_froms a_town_houses_tos) (fun o32 => brn (o32 = 0) (some (0, (0 : Int32))) (some (0, (1 : Int32))))) (bnd (F_X2_sleepAt p1 a_town_houses_froms a_town_houses_tos) (fun o34 => some (0, o34)))))))))) (some (o8, (0 : Int32)))))) (some (o3, (0 : Int32)))))
theorem dX11_houseOf_0 : decode cX11_houseOf 0 = .ok (.aload_n 0, 1) := by decide +kernel
theorem dX11_houseOf_1 : decode cX11_houseOf 1 = .ok (.getfield 10, 3) := by decide +kernel
theorem dX11_houseOf_4 : decode cX11_houseOf 4 = .ok (.getfield 73, 3) := by decide +kernel
theorem dX11_houseOf_7 : decode cX11_houseOf 7 = .ok (.iload_n 1, 1) := by decide +kernel
theorem dX11_houseOf_8 : decode cX11_houseOf 8 = .ok (.invokevirtual 83, 3) := by decide +kernel
theorem dX11_houseOf_11 : decode cX11_houseOf 11 = .ok (.invokestatic 87, 3) := by decide +kernel
theorem dX11_houseOf_14 : decode cX11_houseOf 14 = .ok (.iload_n 2, 1) := by decide +kernel
theorem dX11_houseOf_15 : decode cX11_houseOf 15 = .ok (.iconst 0, 1) := by decide +kernel
theorem dX11_houseOf_16 : decode cX11_houseOf 16 = .ok (.bipush 7, 2) := by decide +kernel
theorem dX11_houseOf_18 : decode cX11_houseOf 18 = .ok (.invokestatic 120, 3) := by decide +kernel
theorem dX11_houseOf_21 : decode cX11_houseOf 21 = .ok (.invokestatic 124, 3) := by decide +kernel
theorem dX11_houseOf_24 : decode cX11_houseOf 24 = .ok (.iload_n 2, 1) := by decide +kernel
theorem dX11_houseOf_25 : decode cX11_houseOf 25 = .ok (.tableswitch 152 0 6 #[43, 55, 67, 79, 91, 103, 125], 43) := by decide +kernel
theorem dX11_houseOf_68 : decode cX11_houseOf 68 = .ok (.aload_n 0, 1) := by decide +kernel
theorem dX11_houseOf_69 : decode cX11_houseOf 69 = .ok (.getfield 10, 3) := by decide +kernel
theorem dX11_houseOf_72 : decode cX11_houseOf 72 = .ok (.getfield 73, 3) := by decide +kernel
theorem dX11_houseOf_75 : decode cX11_houseOf 75 = .ok (.iload_n 1, 1) := by decide +kernel
theorem dX11_houseOf_76 : decode cX11_houseOf 76 = .ok (.invokevirtual 127, 3) := by decide +kernel
theorem dX11_houseOf_79 : decode cX11_houseOf 79 = .ok (.ireturn, 1) := by decide +kernel
theorem dX11_houseOf_80 : decode cX11_houseOf 80 = .ok (.aload_n 0, 1) := by decide +kernel
theorem dX11_houseOf_81 : decode cX11_houseOf 81 = .ok (.getfield 10, 3) := by decide +kernel
theorem dX11_houseOf_84 : decode cX11_houseOf 84 = .ok (.getfield 73, 3) := by decide +kernel
theorem dX11_houseOf_87 : decode cX11_houseOf 87 = .ok (.iload_n 1, 1) := by decide +kernel
theorem dX11_houseOf_88 : decode cX11_houseOf 88 = .ok (.invokevirtual 130, 3) := by decide +kernel
theorem dX11_houseOf_91 : decode cX11_houseOf 91 = .ok (.ireturn, 1) := by decide +kernel
theorem dX11_houseOf_92 : decode cX11_houseOf 92 = .ok (.aload_n 0, 1) := by decide +kernel
theorem dX11_houseOf_93 : decode cX11_houseOf 93 = .ok (.getfield 10, 3) := by decide +kernel
theorem dX11_houseOf_96 : decode cX11_houseOf 96 = .ok (.getfield 73, 3) := by decide +kernel
theorem dX11_houseOf_99 : decode cX11_houseOf 99 = .ok (.iload_n 1, 1) := by decide +kernel
theorem dX11_houseOf_100 : decode cX11_houseOf 100 = .ok (.invokevirtual 133, 3) := by decide +kernel
theorem dX11_houseOf_103 : decode cX11_houseOf 103 = .ok (.ireturn, 1) := by decide +kernel
theorem dX11_houseOf_104 : decode cX11_houseOf 104 = .ok (.aload_n 0, 1) := by decide +kernel
theorem dX11_houseOf_105 : decode cX11_houseOf 105 = .ok (.getfield 10, 3) := by decide +kernel
theorem dX11_houseOf_108 : decode cX11_houseOf 108 = .ok (.getfield 73, 3) := by decide +kernel
theorem dX11_houseOf_111 : decode cX11_houseOf 111 = .ok (.iload_n 1, 1) := by decide +kernel
theorem dX11_houseOf_112 : decode cX11_houseOf 112 = .ok (.invokevirtual 136, 3) := by decide +kernel
theorem dX11_houseOf_115 : decode cX11_houseOf 115 = .ok (.ireturn, 1) := by decide +kernel
theorem dX11_houseOf_116 : decode cX11_houseOf 116 = .ok (.aload_n 0, 1) := by decide +kernel
theorem dX11_houseOf_117 : decode cX11_houseOf 117 = .ok (.getfield 10, 3) := by decide +kernel
theorem dX11_houseOf_120 : decode cX11_houseOf 120 = .ok (.getfield 73, 3) := by decide +kernel
theorem dX11_houseOf_123 : decode cX11_houseOf 123 = .ok (.iload_n 1, 1) := by decide +kernel
theorem dX11_houseOf_124 : decode cX11_houseOf 124 = .ok (.invokevirtual 139, 3) := by decide +kernel
theorem dX11_houseOf_127 : decode cX11_houseOf 127 = .ok (.ireturn, 1) := by decide +kernel
theorem dX11_houseOf_128 : decode cX11_houseOf 128 = .ok (.aload_n 0, 1) := by decide +kernel
theorem dX11_houseOf_129 : decode cX11_houseOf 129 = .ok (.getfield 10, 3) := by decide +kernel
theorem dX11_houseOf_132 : decode cX11_houseOf 132 = .ok (.getfield 105, 3) := by decide +kernel
theorem dX11_houseOf_135 : decode cX11_houseOf 135 = .ok (.aload_n 0, 1) := by decide +kernel
theorem dX11_houseOf_136 : decode cX11_houseOf 136 = .ok (.getfield 10, 3) := by decide +kernel
theorem dX11_houseOf_139 : decode cX11_houseOf 139 = .ok (.getfield 73, 3) := by decide +kernel
theorem dX11_houseOf_142 : decode cX11_houseOf 142 = .ok (.iload_n 1, 1) := by decide +kernel
theorem dX11_houseOf_143 : decode cX11_houseOf 143 = .ok (.invokevirtual 127, 3) := by decide +kernel
theorem dX11_houseOf_146 : decode cX11_houseOf 146 = .ok (.invokevirtual 142, 3) := by decide +kernel
theorem dX11_houseOf_149 : decode cX11_houseOf 149 = .ok (.ireturn, 1) := by decide +kernel
theorem dX11_houseOf_150 : decode cX11_houseOf 150 = .ok (.aload_n 0, 1) := by decide +kernel
theorem dX11_houseOf_151 : decode cX11_houseOf 151 = .ok (.getfield 10, 3) := by decide +kernel
theorem dX11_houseOf_154 : decode cX11_houseOf 154 = .ok (.getfield 73, 3) := by decide +kernel
theorem dX11_houseOf_157 : decode cX11_houseOf 157 = .ok (.iload_n 1, 1) := by decide +kernel
theorem dX11_houseOf_158 : decode cX11_houseOf 158 = .ok (.aload_n 0, 1) := by decide +kernel
theorem dX11_houseOf_159 : decode cX11_houseOf 159 = .ok (.getfield 10, 3) := by decide +kernel
theorem dX11_houseOf_162 : decode cX11_houseOf 162 = .ok (.getfield 145, 3) := by decide +kernel
theorem dX11_houseOf_165 : decode cX11_houseOf 165 = .ok (.invokevirtual 149, 3) := by decide +kernel
theorem dX11_houseOf_168 : decode cX11_houseOf 168 = .ok (.ifCond .eq 7, 3) := by decide +kernel
theorem dX11_houseOf_171 : decode cX11_houseOf 171 = .ok (.iconst 1, 1) := by decide +kernel
theorem dX11_houseOf_172 : decode cX11_houseOf 172 = .ok (.goto 4, 3) := by decide +kernel
theorem dX11_houseOf_175 : decode cX11_houseOf 175 = .ok (.iconst 0, 1) := by decide +kernel
theorem dX11_houseOf_176 : decode cX11_houseOf 176 = .ok (.ireturn, 1) := by decide +kernel
theorem dX11_houseOf_177 : decode cX11_houseOf 177 = .ok (.aload_n 0, 1) := by decide +kernel
theorem dX11_houseOf_178 : decode cX11_houseOf 178 = .ok (.getfield 10, 3) := by decide +kernel
theorem dX11_houseOf_181 : decode cX11_houseOf 181 = .ok (.getfield 73, 3) := by decide +kernel
theorem dX11_houseOf_184 : decode cX11_houseOf 184 = .ok (.iload_n 1, 1) := by decide +kernel
theorem dX11_houseOf_185 : decode cX11_houseOf 185 = .ok (.invokevirtual 153, 3) := by decide +kernel
theorem dX11_houseOf_188 : decode cX11_houseOf 188 = .ok (.ireturn, 1) := by decide +kernel
theorem k_X11_houseOf : cardV yX11_houseOf (Cond.code yX11_houseOf cX11_houseOf 3 (some .int)) 2 := ⟨⟨qi_X11_houseOf, qv_X11_houseOf⟩, qc_X11_houseOf, qn_X11, by decide +kernel, by decide +kernel, by decide +kernel⟩
set_option maxHeartbeats 4000000 in
set_option maxRecDepth 100000 in
theorem c_X11_houseOf (l : Launch) (hfl : l.stackTraces = false) (ak av : Nat → Nat) (aS : Nat) (D : va_G) (g : Nat → ClassId) (q_this q_town q_ahead q_kept q_past q_reason q_orders q_ways q_sheet q_town_houses q_town_halls q_town_posts q_town_blocks q_town_kinds q_town_houses_cells q_town_houses_froms q_town_houses_tos q_town_houses_rings q_town_houses_pranks q_town_halls_rows q_town_halls_firsts q_town_halls_lasts : Nat) (p1 p2 : Int32) (f_isKept : Int32) (f_town_hour : Int32) (f_town_day : Int32) (f_town_prankHouse : Int32) (f_town_bells : Int32) (f_town_echoes : Int32) (f_town_bellPranks : Int32) (f_town_houses_size : Int32) (a_town_houses_cells : Nat → Int32) (a_town_houses_froms : Nat → Int32) (a_town_houses_tos : Nat → Int32) (a_town_houses_rings : Nat → Int32) (a_town_houses_pranks : Nat → Int32) (f_town_halls_size : Int32) (a_town_halls_rows : Nat → Int32) (a_town_halls_firsts : Nat → Int32) (a_town_halls_lasts : Nat → Int32) (o : Nat × Int32) (h : F_X11_houseOf p1 p2 f_town_hour f_town_houses_size a_town_houses_cells a_town_houses_froms a_town_houses_tos a_town_houses_rings a_town_houses_pranks f_town_halls_size a_town_halls_rows a_town_halls_firsts a_town_halls_lasts = some o) : MX l yX11_houseOf (Cond.code yX11_houseOf cX11_houseOf 3 (some .int)) { frames := 8, cells := 2, slots := 12, locals := 130 } ak av aS D g [.ref q_this, .int p1, .int p2] [(q_this, .inr (11, [.ref q_town, .ref q_ahead, .ref q_kept, .int f_isKept, .ref q_past, .ref q_reason, .ref q_orders, .ref q_ways, .ref q_sheet])), (q_town, .inr (9, [.ref q_town_houses, .ref q_town_halls, .ref q_town_posts, .ref q_town_blocks, .ref q_town_kinds, .int f_town_hour, .int f_town_day, .int f_town_prankHouse, .int f_town_bells, .int f_town_echoes, .int f_town_bellPranks])), (q_town_houses, .inr (3, [.int f_town_houses_size, .ref q_town_houses_cells, .ref q_town_houses_froms, .ref q_town_houses_tos, .ref q_town_houses_rings, .ref q_town_houses_pranks])), (q_town_houses_cells, .inl (g 0, 10, .inl a_town_houses_cells)), (q_town_houses_froms, .inl (g 0, 10, .inl a_town_houses_froms)), (q_town_houses_tos, .inl (g 0, 10, .inl a_town_houses_tos)), (q_town_houses_rings, .inl (g 0, 10, .inl a_town_houses_rings)), (q_town_houses_pranks, .inl (g 0, 10, .inl a_town_houses_pranks)), (q_town_halls, .inr (2, [.int f_town_halls_size, .ref q_town_halls_rows, .ref q_town_halls_firsts, .ref q_town_halls_lasts])), (q_town_halls_rows, .inl (g 0, 4, .inl a_town_halls_rows)), (q_town_halls_firsts, .inl (g 0, 4, .inl a_town_halls_firsts)), (q_town_halls_lasts, .inl (g 0, 4, .inl a_town_halls_lasts))] o.1 (some (.int o.2)) [(q_this, .inr (11, [.ref q_town, .ref q_ahead, .ref q_kept, .int f_isKept, .ref q_past, .ref q_reason, .ref q_orders, .ref q_ways, .ref q_sheet])), (q_town, .inr (9, [.ref q_town_houses, .ref q_town_halls, .ref q_town_posts, .ref q_town_blocks, .ref q_town_kinds, .int f_town_hour, .int f_town_day, .int f_town_prankHouse, .int f_town_bells, .int f_town_echoes, .int f_town_bellPranks])), (q_town_houses, .inr (3, [.int f_town_houses_size, .ref q_town_houses_cells, .ref q_town_houses_froms, .ref q_town_houses_tos, .ref q_town_houses_rings, .ref q_town_houses_pranks])), (q_town_houses_cells, .inl (g 0, 10, .inl a_town_houses_cells)), (q_town_houses_froms, .inl (g 0, 10, .inl a_town_houses_froms)), (q_town_houses_tos, .inl (g 0, 10, .inl a_town_houses_tos)), (q_town_houses_rings, .inl (g 0, 10, .inl a_town_houses_rings)), (q_town_houses_pranks, .inl (g 0, 10, .inl a_town_houses_pranks)), (q_town_halls, .inr (2, [.int f_town_halls_size, .ref q_town_halls_rows, .ref q_town_halls_firsts, .ref q_town_halls_lasts])), (q_town_halls_rows, .inl (g 0, 4, .inl a_town_halls_rows)), (q_town_halls_firsts, .inl (g 0, 4, .inl a_town_halls_firsts)), (q_town_halls_lasts, .inl (g 0, 4, .inl a_town_halls_lasts))] 2 12 := by
  refine z_ex_start (by decide) (Nat.le_of_ble_eq_true rfl) ?_
  intro p e s m args below meth c Q A X hr hE hA hno hQ
  refine z_lv (lv' := [(0, .ref q_this), (1, .int p1), (2, .int p2)]) rfl ?_
  refine z_aload_n X 0 dX11_houseOf_0 rfl rfl ?_
  refine z_get (q0 := 0) (k := 0) (ci := 11) X IW_P iw_X11 rfl qf_X11_X11_town (by decide) dX11_houseOf_1 rfl rfl ?_
  refine z_getN (q0 := 1) (k := 0) (ci := 9) X IW_P iw_X9 rfl qfN_X11_X9_houses (by decide) dX11_houseOf_4 rfl rfl ?_
  refine z_iload_n X 1 dX11_houseOf_7 rfl rfl ?_
  obtain ⟨o1, e2, h⟩ := bnd_p h
  refine z_rdV (rest := []) (q0 := 2) (ci := 3) X IW_P k_X2_has (c_X2_has l D g q_town_houses q_town_houses_cells q_town_houses_froms q_town_houses_tos q_town_houses_rings q_town_houses_pranks p1 f_town_houses_size o1 e2) ql_X11_X2_has dX11_houseOf_8 [2] rfl rfl rfl rfl rfl rfl ⟨Nat.le_of_ble_eq_true rfl, Nat.le_of_ble_eq_true rfl, rfl, rfl, Nat.le_of_ble_eq_true rfl, Nat.le_of_ble_eq_true rfl⟩ (Nat.le_of_ble_eq_true rfl) ?_
  obtain ⟨o3, e4, h⟩ := bnd_p h
  refine z_exS (rest := []) (ws' := [(q_this, .inr (11, [.ref q_town, .ref q_ahead, .ref q_kept, .int f_isKept, .ref q_past, .ref q_reason, .ref q_orders, .ref q_ways, .ref q_sheet])), (q_town, .inr (9, [.ref q_town_houses, .ref q_town_halls, .ref q_town_posts, .ref q_town_blocks, .ref q_town_kinds, .int f_town_hour, .int f_town_day, .int f_town_prankHouse, .int f_town_bells, .int f_town_echoes, .int f_town_bellPranks])), (q_town_houses, .inr (3, [.int f_town_houses_size, .ref q_town_houses_cells, .ref q_town_houses_froms, .ref q_town_houses_tos, .ref q_town_houses_rings, .ref q_town_houses_pranks])), (q_town_houses_cells, .inl (g 0, 10, .inl a_town_houses_cells)), (q_town_houses_froms, .inl (g 0, 10, .inl a_town_houses_froms)), (q_town_houses_tos, .inl (g 0, 10, .inl a_town_houses_tos)), (q_town_houses_rings, .inl (g 0, 10, .inl a_town_houses_rings)), (q_town_houses_pranks, .inl (g 0, 10, .inl a_town_houses_pranks)), (q_town_halls, .inr (2, [.int f_town_halls_size, .ref q_town_halls_rows, .ref q_town_halls_firsts, .ref q_town_halls_lasts])), (q_town_halls_rows, .inl (g 0, 4, .inl a_town_halls_rows)), (q_town_halls_firsts, .inl (g 0, 4, .inl a_town_halls_firsts)), (q_town_halls_lasts, .inl (g 0, 4, .inl a_town_halls_lasts))]) X hE hA k_X11_demandListed (c_X11_demandListed l hfl ak av aS D g o1 o3 e4) ql_X11_X11_demandListed dX11_houseOf_11 bkc_nil bk_nil rfl rfl ⟨Nat.le_of_ble_eq_true rfl, Nat.le_of_ble_eq_true rfl, rfl, rfl, Nat.le_of_ble_eq_true rfl, Nat.le_of_ble_eq_true rfl⟩ (Nat.le_of_ble_eq_true rfl) (fun x5 => ?_) (fun x5 => ?_)
  · have h := brn_t h x5
    refine z_iload_n X 2 dX11_houseOf_14 rfl rfl ?_
    refine z_iconst X (0 : Int32) dX11_houseOf_15 (by decide) ?_
    refine z_bipush X (7 : Int32) dX11_houseOf_16 (by decide) ?_
    obtain ⟨o6, e7, h⟩ := bnd_p h
    refine z_rdS (rest := []) X IW_P k_X11_isWithin (c_X11_isWithin l D g p2 (0 : Int32) (7 : Int32) o6 e7) ql_X11_X11_isWithin dX11_houseOf_18 [] rfl rfl rfl ⟨Nat.le_of_ble_eq_true rfl, Nat.le_of_ble_eq_true rfl, rfl, rfl, Nat.le_of_ble_eq_true rfl, Nat.le_of_ble_eq_true rfl⟩ (Nat.le_of_ble_eq_true rfl) ?_
    obtain ⟨o8, e9, h⟩ := bnd_p h
    refine z_exS (rest := []) (ws' := [(q_this, .inr (11, [.ref q_town, .ref q_ahead, .ref q_kept, .int f_isKept, .ref q_past, .ref q_reason, .ref q_orders, .ref q_ways, .ref q_sheet])), (q_town, .inr (9, [.ref q_town_houses, .ref q_town_halls, .ref q_town_posts, .ref q_town_blocks, .ref q_town_kinds, .int f_town_hour, .int f_town_day, .int f_town_prankHouse, .int f_town_bells, .int f_town_echoes, .int f_town_bellPranks])), (q_town_houses, .inr (3, [.int f_town_houses_size, .ref q_town_houses_cells, .ref q_town_houses_froms, .ref q_town_houses_tos, .ref q_town_houses_rings, .ref q_town_houses_pranks])), (q_town_houses_cells, .inl (g 0, 10, .inl a_town_houses_cells)), (q_town_houses_froms, .inl (g 0, 10, .inl a_town_houses_froms)), (q_town_houses_tos, .inl (g 0, 10, .inl a_town_houses_tos)), (q_town_houses_rings, .inl (g 0, 10, .inl a_town_houses_rings)), (q_town_houses_pranks, .inl (g 0, 10, .inl a_town_houses_pranks)), (q_town_halls, .inr (2, [.int f_town_halls_size, .ref q_town_halls_rows, .ref q_town_halls_firsts, .ref q_town_halls_lasts])), (q_town_halls_rows, .inl (g 0, 4, .inl a_town_halls_rows)), (q_town_halls_firsts, .inl (g 0, 4, .inl a_town_halls_firsts)), (q_town_halls_lasts, .inl (g 0, 4, .inl a_town_halls_lasts))]) X hE hA k_X11_demandProper (c_X11_demandProper l hfl ak av aS D g o6 o8 e9) ql_X11_X11_demandProper dX11_houseOf_21 bkc_nil bk_nil rfl rfl ⟨Nat.le_of_ble_eq_true rfl, Nat.le_of_ble_eq_true rfl, rfl, rfl, Nat.le_of_ble_eq_true rfl, Nat.le_of_ble_eq_true rfl⟩ (Nat.le_of_ble_eq_true rfl) (fun x10 => ?_) (fun x10 => ?_)
    · have h := brn_t h x10
      refine z_iload_n X 2 dX11_houseOf_24 rfl rfl ?_
      by_cases n11 : p2 = (0 : Int32)
      · have h := brn_t h n11
        refine z_tin (off := 43) 68 X dX11_houseOf_25 (sw_eq (k := 0) n11 (by decide)) (by decide) (by decide) (by decide) (by decide) ?_
        refine z_aload_n X 0 dX11_houseOf_68 rfl rfl ?_
        refine z_get (q0 := 0) (k := 0) (ci := 11) X IW_P iw_X11 rfl qf_X11_X11_town (by decide) dX11_houseOf_69 rfl rfl ?_
        refine z_getN (q0 := 1) (k := 0) (ci := 9) X IW_P iw_X9 rfl qfN_X11_X9_houses (by decide) dX11_houseOf_72 rfl rfl ?_
        refine z_iload_n X 1 dX11_houseOf_75 rfl rfl ?_
        obtain ⟨o12, e13, h⟩ := bnd_p h
        refine z_rdV (rest := []) (q0 := 2) (ci := 3) X IW_P k_X2_cellAt (c_X2_cellAt l D g q_town_houses q_town_houses_cells q_town_houses_froms q_town_houses_tos q_town_houses_rings q_town_houses_pranks p1 f_town_houses_size a_town_houses_cells o12 e13) ql_X11_X2_cellAt dX11_houseOf_76 [2, 3] rfl rfl rfl rfl rfl rfl ⟨Nat.le_of_ble_eq_true rfl, Nat.le_of_ble_eq_true rfl, rfl, rfl, Nat.le_of_ble_eq_true rfl, Nat.le_of_ble_eq_true rfl⟩ (Nat.le_of_ble_eq_true rfl) ?_
        cases h
        exact z_iretX X hQ (Nat.le_of_ble_eq_true rfl) (Nat.le_of_ble_eq_true rfl) hr dX11_houseOf_79
      have h := brn_f h n11
      by_cases n14 : p2 = (1 : Int32)
      · have h := brn_t h n14
        refine z_tin (off := 55) 80 X dX11_houseOf_25 (sw_eq (k := 1) n14 (by decide)) (by decide) (by decide) (by decide) (by decide) ?_
        refine z_aload_n X 0 dX11_houseOf_80 rfl rfl ?_
        refine z_get (q0 := 0) (k := 0) (ci := 11) X IW_P iw_X11 rfl qf_X11_X11_town (by decide) dX11_houseOf_81 rfl rfl ?_
        refine z_getN (q0 := 1) (k := 0) (ci := 9) X IW_P iw_X9 rfl qfN_X11_X9_houses (by decide) dX11_houseOf_84 rfl rfl ?_
        refine z_iload_n X 1 dX11_houseOf_87 rfl rfl ?_
        obtain ⟨o15, e16, h⟩ := bnd_p h
        refine z_rdV (rest := []) (q0 := 2) (ci := 3) X IW_P k_X2_fromAt (c_X2_fromAt l D g q_town_houses q_town_houses_cells q_town_houses_froms q_town_houses_tos q_town_houses_rings q_town_houses_pranks p1 f_town_houses_size a_town_houses_froms o15 e16) ql_X11_X2_fromAt dX11_houseOf_88 [2, 4] rfl rfl rfl rfl rfl rfl ⟨Nat.le_of_ble_eq_true rfl, Nat.le_of_ble_eq_true rfl, rfl, rfl, Nat.le_of_ble_eq_true rfl, Nat.le_of_ble_eq_true rfl⟩ (Nat.le_of_ble_eq_true rfl) ?_
        cases h
        exact z_iretX X hQ (Nat.le_of_ble_eq_true rfl) (Nat.le_of_ble_eq_true rfl) hr dX11_houseOf_91
      have h := brn_f h n14
      by_cases n17 : p2 = (2 : Int32)
      · have h := brn_t h n17
        refine z_tin (off := 67) 92 X dX11_houseOf_25 (sw_eq (k := 2) n17 (by decide)) (by decide) (by decide) (by decide) (by decide) ?_
        refine z_aload_n X 0 dX11_houseOf_92 rfl rfl ?_
        refine z_get (q0 := 0) (k := 0) (ci := 11) X IW_P iw_X11 rfl qf_X11_X11_town (by decide) dX11_houseOf_93 rfl rfl ?_
        refine z_getN (q0 := 1) (k := 0) (ci := 9) X IW_P iw_X9 rfl qfN_X11_X9_houses (by decide) dX11_houseOf_96 rfl rfl ?_
        refine z_iload_n X 1 dX11_houseOf_99 rfl rfl ?_
        obtain ⟨o18, e19, h⟩ := bnd_p h
        refine z_rdV (rest := []) (q0 := 2) (ci := 3) X IW_P k_X2_toAt (c_X2_toAt l D g q_town_houses q_town_houses_cells q_town_houses_froms q_town_houses_tos q_town_houses_rings q_town_houses_pranks p1 f_town_houses_size a_town_houses_tos o18 e19) ql_X11_X2_toAt dX11_houseOf_100 [2, 5] rfl rfl rfl rfl rfl rfl ⟨Nat.le_of_ble_eq_true rfl, Nat.le_of_ble_eq_true rfl, rfl, rfl, Nat.le_of_ble_eq_true rfl, Nat.le_of_ble_eq_true rfl⟩ (Nat.le_of_ble_eq_true rfl) ?_
        cases h
        exact z_iretX X hQ (Nat.le_of_ble_eq_true rfl) (Nat.le_of_ble_eq_true rfl) hr dX11_houseOf_103
      have h := brn_f h n17
      by_cases n20 : p2 = (3 : Int32)
      · have h := brn_t h n20
        refine z_tin (off := 79) 104 X dX11_houseOf_25 (sw_eq (k := 3) n20 (by decide)) (by decide) (by decide) (by decide) (by decide) ?_
        refine z_aload_n X 0 dX11_houseOf_104 rfl rfl ?_
        refine z_get (q0 := 0) (k := 0) (ci := 11) X IW_P iw_X11 rfl qf_X11_X11_town (by decide) dX11_houseOf_105 rfl rfl ?_
        refine z_getN (q0 := 1) (k := 0) (ci := 9) X IW_P iw_X9 rfl qfN_X11_X9_houses (by decide) dX11_houseOf_108 rfl rfl ?_
        refine z_iload_n X 1 dX11_houseOf_111 rfl rfl ?_
        obtain ⟨o21, e22, h⟩ := bnd_p h
        refine z_rdV (rest := []) (q0 := 2) (ci := 3) X IW_P k_X2_ringsAt (c_X2_ringsAt l D g q_town_houses q_town_houses_cells q_town_houses_froms q_town_houses_tos q_town_houses_rings q_town_houses_pranks p1 f_town_houses_size a_town_houses_rings o21 e22) ql_X11_X2_ringsAt dX11_houseOf_112 [2, 6] rfl rfl rfl rfl rfl rfl ⟨Nat.le_of_ble_eq_true rfl, Nat.le_of_ble_eq_true rfl, rfl, rfl, Nat.le_of_ble_eq_true rfl, Nat.le_of_ble_eq_true rfl⟩ (Nat.le_of_ble_eq_true rfl) ?_
        cases h
        exact z_iretX X hQ (Nat.le_of_ble_eq_true rfl) (Nat.le_of_ble_eq_true rfl) hr dX11_houseOf_115
      have h := brn_f h n20
      by_cases n23 : p2 = (4 : Int32)
      · have h := brn_t h n23
        refine z_tin (off := 91) 116 X dX11_houseOf_25 (sw_eq (k := 4) n23 (by decide)) (by decide) (by decide) (by decide) (by decide) ?_
        refine z_aload_n X 0 dX11_houseOf_116 rfl rfl ?_
        refine z_get (q0 := 0) (k := 0) (ci := 11) X IW_P iw_X11 rfl qf_X11_X11_town (by decide) dX11_houseOf_117 rfl rfl ?_
        refine z_getN (q0 := 1) (k := 0) (ci := 9) X IW_P iw_X9 rfl qfN_X11_X9_houses (by decide) dX11_houseOf_120 rfl rfl ?_
        refine z_iload_n X 1 dX11_houseOf_123 rfl rfl ?_
        obtain ⟨o24, e25, h⟩ := bnd_p h
        refine z_rdV (rest := []) (q0 := 2) (ci := 3) X IW_P k_X2_pranksAt (c_X2_pranksAt l D g q_town_houses q_town_houses_cells q_town_houses_froms q_town_houses_tos q_town_houses_rings q_town_houses_pranks p1 f_town_houses_size a_town_houses_pranks o24 e25) ql_X11_X2_pranksAt dX11_houseOf_124 [2, 7] rfl rfl rfl rfl rfl rfl ⟨Nat.le_of_ble_eq_true rfl, Nat.le_of_ble_eq_true rfl, rfl, rfl, Nat.le_of_ble_eq_true rfl, Nat.le_of_ble_eq_true rfl⟩ (Nat.le_of_ble_eq_true rfl) ?_
        cases h
        exact z_iretX X hQ (Nat.le_of_ble_eq_true rfl) (Nat.le_of_ble_eq_true rfl) hr dX11_houseOf_127
      have h := brn_f h n23
      by_cases n26 : p2 = (5 : Int32)
      · have h := brn_t h n26
        refine z_tin (off := 103) 128 X dX11_houseOf_25 (sw_eq (k := 5) n26 (by decide)) (by decide) (by decide) (by decide) (by decide) ?_
        refine z_aload_n X 0 dX11_houseOf_128 rfl rfl ?_
        refine z_get (q0 := 0) (k := 0) (ci := 11) X IW_P iw_X11 rfl qf_X11_X11_town (by decide) dX11_houseOf_129 rfl rfl ?_
        refine z_getN (q0 := 1) (k := 1) (ci := 9) X IW_P iw_X9 rfl qfN_X11_X9_halls (by decide) dX11_houseOf_132 rfl rfl ?_
        refine z_aload_n X 0 dX11_houseOf_135 rfl rfl ?_
        refine z_get (q0 := 0) (k := 0) (ci := 11) X IW_P iw_X11 rfl qf_X11_X11_town (by decide) dX11_houseOf_136 rfl rfl ?_
        refine z_getN (q0 := 1) (k := 0) (ci := 9) X IW_P iw_X9 rfl qfN_X11_X9_houses (by decide) dX11_houseOf_139 rfl rfl ?_
        refine z_iload_n X 1 dX11_houseOf_142 rfl rfl ?_
        obtain ⟨o27, e28, h⟩ := bnd_p h
        refine z_rdV (rest := [.ref q_town_halls]) (q0 := 2) (ci := 3) X IW_P k_X2_cellAt (c_X2_cellAt l D g q_town_houses q_town_houses_cells q_town_houses_froms q_town_houses_tos q_town_houses_rings q_town_houses_pranks p1 f_town_houses_size a_town_houses_cells o27 e28) ql_X11_X2_cellAt dX11_houseOf_143 [2, 3] rfl rfl rfl rfl rfl rfl ⟨Nat.le_of_ble_eq_true rfl, Nat.le_of_ble_eq_true rfl, rfl, rfl, Nat.le_of_ble_eq_true rfl, Nat.le_of_ble_eq_true rfl⟩ (Nat.le_of_ble_eq_true rfl) ?_
        obtain ⟨o29, e30, h⟩ := bnd_p h
        refine z_rdV (rest := []) (q0 := 8) (ci := 2) X IW_P k_X1_around (c_X1_around l D g q_town_halls q_town_halls_rows q_town_halls_firsts q_town_halls_lasts o27 f_town_halls_size a_town_halls_rows a_town_halls_firsts a_town_halls_lasts o29 e30) ql_X11_X1_around dX11_houseOf_146 [8, 9, 10, 11] rfl rfl rfl rfl rfl rfl ⟨Nat.le_of_ble_eq_true rfl, Nat.le_of_ble_eq_true rfl, rfl, rfl, Nat.le_of_ble_eq_true rfl, Nat.le_of_ble_eq_true rfl⟩ (Nat.le_of_ble_eq_true rfl) ?_
        cases h
        exact z_iretX X hQ (Nat.le_of_ble_eq_true rfl) (Nat.le_of_ble_eq_true rfl) hr dX11_houseOf_149
      have h := brn_f h n26
      by_cases n31 : p2 = (6 : Int32)
      · have h := brn_t h n31
        refine z_tin (off := 125) 150 X dX11_houseOf_25 (sw_eq (k := 6) n31 (by decide)) (by decide) (by decide) (by decide) (by decide) ?_
        refine z_aload_n X 0 dX11_houseOf_150 rfl rfl ?_
        refine z_get (q0 := 0) (k := 0) (ci := 11) X IW_P iw_X11 rfl qf_X11_X11_town (by decide) dX11_houseOf_151 rfl rfl ?_
        refine z_getN (q0 := 1) (k := 0) (ci := 9) X IW_P iw_X9 rfl qfN_X11_X9_houses (by decide) dX11_houseOf_154 rfl rfl ?_
        refine z_iload_n X 1 dX11_houseOf_157 rfl rfl ?_
        refine z_aload_n X 0 dX11_houseOf_158 rfl rfl ?_
        refine z_get (q0 := 0) (k := 0) (ci := 11) X IW_P iw_X11 rfl qf_X11_X11_town (by decide) dX11_houseOf_159 rfl rfl ?_
        refine z_getN (q0 := 1) (k := 5) (ci := 9) X IW_P iw_X9 rfl qfN_X11_X9_hour (by decide) dX11_houseOf_162 rfl rfl ?_
        obtain ⟨o32, e33, h⟩ := bnd_p h
        refine z_rdV (rest := []) (q0 := 2) (ci := 3) X IW_P k_X2_isAsleep (c_X2_isAsleep l D g q_town_houses q_town_houses_cells q_town_houses_froms q_town_houses_tos q_town_houses_rings q_town_houses_pranks p1 f_town_hour f_town_houses_size a_town_houses_froms a_town_houses_tos o32 e33) ql_X11_X2_isAsleep dX11_houseOf_165 [2, 4, 5] rfl rfl rfl rfl rfl rfl ⟨Nat.le_of_ble_eq_true rfl, Nat.le_of_ble_eq_true rfl, rfl, rfl, Nat.le_of_ble_eq_true rfl, Nat.le_of_ble_eq_true rfl⟩ (Nat.le_of_ble_eq_true rfl) ?_
        refine z_if_eq X 175 dX11_houseOf_168 (by decide) h (fun _ h => ?_) (fun _ h => ?_)
        · refine z_iconst X (0 : Int32) dX11_houseOf_175 (by decide) ?_
          cases h
          exact z_iretX X hQ (Nat.le_of_ble_eq_true rfl) (Nat.le_of_ble_eq_true rfl) hr dX11_houseOf_176
        · refine z_iconst X (1 : Int32) dX11_houseOf_171 (by decide) ?_
          refine z_goto X 176 dX11_houseOf_172 (by decide) ?_
          cases h
          exact z_iretX X hQ (Nat.le_of_ble_eq_true rfl) (Nat.le_of_ble_eq_true rfl) hr dX11_houseOf_176
      have h := brn_f h n31
      refine z_tdef 177 [0, 1, 2, 3, 4, 5, 6] X dX11_houseOf_25 (by decide) (by decide) (List.forall_mem_cons.mpr ⟨sw_ne n11 (by decide), List.forall_mem_cons.mpr ⟨sw_ne n14 (by decide), List.forall_mem_cons.mpr ⟨sw_ne n17 (by decide), List.forall_mem_cons.mpr ⟨sw_ne n20 (by decide), List.forall_mem_cons.mpr ⟨sw_ne n23 (by decide), List.forall_mem_cons.mpr ⟨sw_ne n26 (by decide), List.forall_mem_cons.mpr ⟨sw_ne n31 (by decide), fun _ hk => absurd hk List.not_mem_nil⟩⟩⟩⟩⟩⟩⟩) (by decide) ?_
      refine z_aload_n X 0 dX11_houseOf_177 rfl rfl ?_
      refine z_get (q0 := 0) (k := 0) (ci := 11) X IW_P iw_X11 rfl qf_X11_X11_town (by decide) dX11_houseOf_178 rfl rfl ?_
      refine z_getN (q0 := 1) (k := 0) (ci := 9) X IW_P iw_X9 rfl qfN_X11_X9_houses (by decide) dX11_houseOf_181 rfl rfl ?_
      refine z_iload_n X 1 dX11_houseOf_184 rfl rfl ?_
      obtain ⟨o34, e35, h⟩ := bnd_p h
      refine z_rdV (rest := []) (q0 := 2) (ci := 3) X IW_P k_X2_sleepAt (c_X2_sleepAt l D g q_town_houses q_town_houses_cells q_town_houses_froms q_town_houses_tos q_town_houses_rings q_town_houses_pranks p1 f_town_houses_size a_town_houses_froms a_town_houses_tos o34 e35) ql_X11_X2_sleepAt dX11_houseOf_185 [2, 4, 5] rfl rfl rfl rfl rfl rfl ⟨Nat.le_of_ble_eq_true rfl, Nat.le_of_ble_eq_true rfl, rfl, rfl, Nat.le_of_ble_eq_true rfl, Nat.le_of_ble_eq_true rfl⟩ (Nat.le_of_ble_eq_true rfl) ?_
      cases h
      exact z_iretX X hQ (Nat.le_of_ble_eq_true rfl) (Nat.le_of_ble_eq_true rfl) hr dX11_houseOf_188
    · have h := brn_f h x10
      cases h
      exact zt_out (lv := [(0, .ref q_this), (1, .int p1), (2, .int p2)]) X hno hQ x10 (Nat.le_of_ble_eq_true rfl) (Nat.le_of_ble_eq_true rfl)
  · have h := brn_f h x5
    cases h
    exact zt_out (lv := [(0, .ref q_this), (1, .int p1), (2, .int p2)]) X hno hQ x5 (Nat.le_of_ble_eq_true rfl) (Nat.le_of_ble_eq_true rfl)

def F_X11_asleep (p1 : Int32) (p2 : Int32) (f_town_houses_size : Int32) (a_town_houses_froms : Nat → Int32) (a_town_houses_tos : Nat → Int32) : Option (Nat × Int32) :=
  bnd (F_X11_isHour p1) (fun o1 => bnd (F_X11_demandProper o1) (fun o3 => brn (o3 = 0) (brn (p2 = 0) (bnd (F_X2_sleepers p1 f_town_houses_size a_town_houses_froms a_town_houses_tos) (fun o6 => some (0, o6))) (bnd (F_X2_sleepersByTurns p1 f_town_houses_size a_town_houses_froms a_town_houses_tos) (fun o8 => some (0, o8)))) (some (o3, (0 : Int32)))))
theorem dX11_asleep_0 : decode cX11_asleep 0 = .ok (.iload_n 1, 1) := by decide +kernel
theorem dX11_asleep_1 : decode cX11_asleep 1 = .ok (.invokestatic 156, 3) := by decide +kernel
theorem dX11_asleep_4 : decode cX11_asleep 4 = .ok (.invokestatic 124, 3) := by decide +kernel
theorem dX11_asleep_7 : decode cX11_asleep 7 = .ok (.iload_n 2, 1) := by decide +kernel
theorem dX11_asleep_8 : decode cX11_asleep 8 = .ok (.ifCond .eq 17, 3) := by decide +kernel
theorem dX11_asleep_11 : decode cX11_asleep 11 = .ok (.aload_n 0, 1) := by decide +kernel
theorem dX11_asleep_12 : decode cX11_asleep 12 = .ok (.getfield 10, 3) := by decide +kernel
theorem dX11_asleep_15 : decode cX11_asleep 15 = .ok (.getfield 73, 3) := by decide +kernel
theorem dX11_asleep_18 : decode cX11_asleep 18 = .ok (.iload_n 1, 1) := by decide +kernel
theorem dX11_asleep_19 : decode cX11_asleep 19 = .ok (.invokevirtual 159, 3) := by decide +kernel
theorem dX11_asleep_22 : decode cX11_asleep 22 = .ok (.goto 14, 3) := by decide +kernel
theorem dX11_asleep_25 : decode cX11_asleep 25 = .ok (.aload_n 0, 1) := by decide +kernel
theorem dX11_asleep_26 : decode cX11_asleep 26 = .ok (.getfield 10, 3) := by decide +kernel
theorem dX11_asleep_29 : decode cX11_asleep 29 = .ok (.getfield 73, 3) := by decide +kernel
theorem dX11_asleep_32 : decode cX11_asleep 32 = .ok (.iload_n 1, 1) := by decide +kernel
theorem dX11_asleep_33 : decode cX11_asleep 33 = .ok (.invokevirtual 162, 3) := by decide +kernel
theorem dX11_asleep_36 : decode cX11_asleep 36 = .ok (.ireturn, 1) := by decide +kernel
theorem k_X11_asleep : cardV yX11_asleep (Cond.code yX11_asleep cX11_asleep 3 (some .int)) 2 := ⟨⟨qi_X11_asleep, qv_X11_asleep⟩, qc_X11_asleep, qn_X11, by decide +kernel, by decide +kernel, by decide +kernel⟩
set_option maxHeartbeats 4000000 in
set_option maxRecDepth 100000 in
theorem c_X11_asleep (l : Launch) (hfl : l.stackTraces = false) (ak av : Nat → Nat) (aS : Nat) (D : va_G) (g : Nat → ClassId) (q_this q_town q_ahead q_kept q_past q_reason q_orders q_ways q_sheet q_town_houses q_town_halls q_town_posts q_town_blocks q_town_kinds q_town_houses_cells q_town_houses_froms q_town_houses_tos q_town_houses_rings q_town_houses_pranks : Nat) (p1 p2 : Int32) (f_isKept : Int32) (f_town_hour : Int32) (f_town_day : Int32) (f_town_prankHouse : Int32) (f_town_bells : Int32) (f_town_echoes : Int32) (f_town_bellPranks : Int32) (f_town_houses_size : Int32) (a_town_houses_froms : Nat → Int32) (a_town_houses_tos : Nat → Int32) (o : Nat × Int32) (h : F_X11_asleep p1 p2 f_town_houses_size a_town_houses_froms a_town_houses_tos = some o) : MX l yX11_asleep (Cond.code yX11_asleep cX11_asleep 3 (some .int)) { frames := 8, cells := 1, slots := 6, locals := 130 } ak av aS D g [.ref q_this, .int p1, .int p2] [(q_this, .inr (11, [.ref q_town, .ref q_ahead, .ref q_kept, .int f_isKept, .ref q_past, .ref q_reason, .ref q_orders, .ref q_ways, .ref q_sheet])), (q_town, .inr (9, [.ref q_town_houses, .ref q_town_halls, .ref q_town_posts, .ref q_town_blocks, .ref q_town_kinds, .int f_town_hour, .int f_town_day, .int f_town_prankHouse, .int f_town_bells, .int f_town_echoes, .int f_town_bellPranks])), (q_town_houses, .inr (3, [.int f_town_houses_size, .ref q_town_houses_cells, .ref q_town_houses_froms, .ref q_town_houses_tos, .ref q_town_houses_rings, .ref q_town_houses_pranks])), (q_town_houses_froms, .inl (g 0, 10, .inl a_town_houses_froms)), (q_town_houses_tos, .inl (g 0, 10, .inl a_town_houses_tos))] o.1 (some (.int o.2)) [(q_this, .inr (11, [.ref q_town, .ref q_ahead, .ref q_kept, .int f_isKept, .ref q_past, .ref q_reason, .ref q_orders, .ref q_ways, .ref q_sheet])), (q_town, .inr (9, [.ref q_town_houses, .ref q_town_halls, .ref q_town_posts, .ref q_town_blocks, .ref q_town_kinds, .int f_town_hour, .int f_town_day, .int f_town_prankHouse, .int f_town_bells, .int f_town_echoes, .int f_town_bellPranks])), (q_town_houses, .inr (3, [.int f_town_houses_size, .ref q_town_houses_cells, .ref q_town_houses_froms, .ref q_town_houses_tos, .ref q_town_houses_rings, .ref q_town_houses_pranks])), (q_town_houses_froms, .inl (g 0, 10, .inl a_town_houses_froms)), (q_town_houses_tos, .inl (g 0, 10, .inl a_town_houses_tos))] 1 6 := by
  refine z_ex_start (by decide) (Nat.le_of_ble_eq_true rfl) ?_
  intro p e s m args below meth c Q A X hr hE hA hno hQ
  refine z_lv (lv' := [(0, .ref q_this), (1, .int p1), (2, .int p2)]) rfl ?_
  refine z_iload_n X 1 dX11_asleep_0 rfl rfl ?_
  obtain ⟨o1, e2, h⟩ := bnd_p h
  refine z_rdS (rest := []) X IW_P k_X11_isHour (c_X11_isHour l D g p1 o1 e2) ql_X11_X11_isHour dX11_asleep_1 [] rfl rfl rfl ⟨Nat.le_of_ble_eq_true rfl, Nat.le_of_ble_eq_true rfl, rfl, rfl, Nat.le_of_ble_eq_true rfl, Nat.le_of_ble_eq_true rfl⟩ (Nat.le_of_ble_eq_true rfl) ?_
  obtain ⟨o3, e4, h⟩ := bnd_p h
  refine z_exS (rest := []) (ws' := [(q_this, .inr (11, [.ref q_town, .ref q_ahead, .ref q_kept, .int f_isKept, .ref q_past, .ref q_reason, .ref q_orders, .ref q_ways, .ref q_sheet])), (q_town, .inr (9, [.ref q_town_houses, .ref q_town_halls, .ref q_town_posts, .ref q_town_blocks, .ref q_town_kinds, .int f_town_hour, .int f_town_day, .int f_town_prankHouse, .int f_town_bells, .int f_town_echoes, .int f_town_bellPranks])), (q_town_houses, .inr (3, [.int f_town_houses_size, .ref q_town_houses_cells, .ref q_town_houses_froms, .ref q_town_houses_tos, .ref q_town_houses_rings, .ref q_town_houses_pranks])), (q_town_houses_froms, .inl (g 0, 10, .inl a_town_houses_froms)), (q_town_houses_tos, .inl (g 0, 10, .inl a_town_houses_tos))]) X hE hA k_X11_demandProper (c_X11_demandProper l hfl ak av aS D g o1 o3 e4) ql_X11_X11_demandProper dX11_asleep_4 bkc_nil bk_nil rfl rfl ⟨Nat.le_of_ble_eq_true rfl, Nat.le_of_ble_eq_true rfl, rfl, rfl, Nat.le_of_ble_eq_true rfl, Nat.le_of_ble_eq_true rfl⟩ (Nat.le_of_ble_eq_true rfl) (fun x5 => ?_) (fun x5 => ?_)
  · have h := brn_t h x5
    refine z_iload_n X 2 dX11_asleep_7 rfl rfl ?_
    refine z_if_eq X 25 dX11_asleep_8 (by decide) h (fun _ h => ?_) (fun _ h => ?_)
    · refine z_aload_n X 0 dX11_asleep_25 rfl rfl ?_
      refine z_get (q0 := 0) (k := 0) (ci := 11) X IW_P iw_X11 rfl qf_X11_X11_town (by decide) dX11_asleep_26 rfl rfl ?_
      refine z_getN (q0 := 1) (k := 0) (ci := 9) X IW_P iw_X9 rfl qfN_X11_X9_houses (by decide) dX11_asleep_29 rfl rfl ?_
      refine z_iload_n X 1 dX11_asleep_32 rfl rfl ?_
      obtain ⟨o6, e7, h⟩ := bnd_p h
      refine z_rdV (rest := []) (q0 := 2) (ci := 3) X IW_P k_X2_sleepers (c_X2_sleepers l D g q_town_houses q_town_houses_cells q_town_houses_froms q_town_houses_tos q_town_houses_rings q_town_houses_pranks p1 f_town_houses_size a_town_houses_froms a_town_houses_tos o6 e7) ql_X11_X2_sleepers dX11_asleep_33 [2, 3, 4] rfl rfl rfl rfl rfl rfl ⟨Nat.le_of_ble_eq_true rfl, Nat.le_of_ble_eq_true rfl, rfl, rfl, Nat.le_of_ble_eq_true rfl, Nat.le_of_ble_eq_true rfl⟩ (Nat.le_of_ble_eq_true rfl) ?_
      cases h
      exact z_iretX X hQ (Nat.le_of_ble_eq_true rfl) (Nat.le_of_ble_eq_true rfl) hr dX11_asleep_36
    · refine z_aload_n X 0 dX11_asleep_11 rfl rfl ?_
      refine z_get (q0 := 0) (k := 0) (ci := 11) X IW_P iw_X11 rfl qf_X11_X11_town (by decide) dX11_asleep_12 rfl rfl ?_
      refine z_getN (q0 := 1) (k := 0) (ci := 9) X IW_P iw_X9 rfl qfN_X11_X9_houses (by decide) dX11_asleep_15 rfl rfl ?_
      refine z_iload_n X 1 dX11_asleep_18 rfl rfl ?_
      obtain ⟨o8, e9, h⟩ := bnd_p h
      refine z_rdV (rest := []) (q0 := 2) (ci := 3) X IW_P k_X2_sleepersByTurns (c_X2_sleepersByTurns l D g q_town_houses q_town_houses_cells q_town_houses_froms q_town_houses_tos q_town_houses_rings q_town_houses_pranks p1 f_town_houses_size a_town_houses_froms a_town_houses_tos o8 e9) ql_X11_X2_sleepersByTurns dX11_asleep_19 [2, 3, 4] rfl rfl rfl rfl rfl rfl ⟨Nat.le_of_ble_eq_true rfl, Nat.le_of_ble_eq_true rfl, rfl, rfl, Nat.le_of_ble_eq_true rfl, Nat.le_of_ble_eq_true rfl⟩ (Nat.le_of_ble_eq_true rfl) ?_
      refine z_goto X 36 dX11_asleep_22 (by decide) ?_
      cases h
      exact z_iretX X hQ (Nat.le_of_ble_eq_true rfl) (Nat.le_of_ble_eq_true rfl) hr dX11_asleep_36
  · have h := brn_f h x5
    cases h
    exact zt_out (lv := [(0, .ref q_this), (1, .int p1), (2, .int p2)]) X hno hQ x5 (Nat.le_of_ble_eq_true rfl) (Nat.le_of_ble_eq_true rfl)

def F_X11_demandFound (p0 : Int32) : Option (Nat) :=
  brn (p0 = 0) (some (4)) (some (0))
theorem dX11_demandFound_0 : decode cX11_demandFound 0 = .ok (.iload_n 0, 1) := by decide +kernel
theorem dX11_demandFound_1 : decode cX11_demandFound 1 = .ok (.ifCond .ne 14, 3) := by decide +kernel
theorem dX11_demandFound_4 : decode cX11_demandFound 4 = .ok (.new 375, 3) := by decide +kernel
theorem dX11_demandFound_7 : decode cX11_demandFound 7 = .ok (.dup, 1) := by decide +kernel
theorem dX11_demandFound_8 : decode cX11_demandFound 8 = .ok (.ldc_w 377, 3) := by decide +kernel
theorem dX11_demandFound_11 : decode cX11_demandFound 11 = .ok (.invokespecial 379, 3) := by decide +kernel
theorem dX11_demandFound_14 : decode cX11_demandFound 14 = .ok (.athrow, 1) := by decide +kernel
theorem dX11_demandFound_15 : decode cX11_demandFound 15 = .ok (.return_, 1) := by decide +kernel
theorem k_X11_demandFound : cardS yX11_demandFound (Cond.code yX11_demandFound cX11_demandFound 1 none) 1 := ⟨qs_X11_demandFound, qc_X11_demandFound, qn_X11, by decide +kernel, by decide +kernel, by decide +kernel⟩
set_option maxHeartbeats 4000000 in
set_option maxRecDepth 100000 in
theorem c_X11_demandFound (l : Launch) (hfl : l.stackTraces = false) (ak av : Nat → Nat) (aS : Nat) (D : va_G) (g : Nat → ClassId) (p0 : Int32) (o : Nat) (h : F_X11_demandFound p0 = some o) : MX l yX11_demandFound (Cond.code yX11_demandFound cX11_demandFound 1 none) { frames := 7, cells := 1, slots := 6, locals := 110 } ak av aS D g [.int p0] [] o none [] 1 6 := by
  refine z_ex_start (by decide) (Nat.le_of_ble_eq_true rfl) ?_
  intro p e s m args below meth c Q A X hr hE hA hno hQ
  refine z_lv (lv' := [(0, .int p0)]) rfl ?_
  refine z_iload_n X 0 dX11_demandFound_0 rfl rfl ?_
  refine z_if_ne X 15 dX11_demandFound_1 (by decide) h (fun _ h => ?_) (fun _ h => ?_)
  · cases h
    exact z_throw13 (Y9 := "java/lang/RuntimeException") (r9 := ["java/lang/Exception"]) (si := 3) X hE hno hfl hQ (by decide) (by decide +kernel) (by decide +kernel) rfl qk_X11_NoSuchElementException qn_NoSuchElementException (by decide) rfl rfl xt_4 xg_4 dX11_demandFound_4 dX11_demandFound_7 dX11_demandFound_8 dX11_demandFound_11 dX11_demandFound_14 (by decide) (Nat.le_of_ble_eq_true rfl) (Nat.le_of_ble_eq_true rfl) (Nat.le_of_ble_eq_true rfl) (Nat.le_of_ble_eq_true rfl) (Nat.le_of_ble_eq_true rfl)
  · cases h
    exact z_vretX X hQ (Nat.le_of_ble_eq_true rfl) (Nat.le_of_ble_eq_true rfl) hr dX11_demandFound_15

def J_X11_deepest_21 (f_town_houses_size : Int32) (a_town_houses_froms : Nat → Int32) (a_town_houses_tos : Nat → Int32) (t0 : Int32) (x1 : Int32) : Option (Nat × Int32) :=
  bnd (F_X11_demandFound t0) (fun o3 => brn (o3 = 0) (some (0, x1)) (some (o3, (0 : Int32))))

def F_X11_deepest (f_town_houses_size : Int32) (a_town_houses_froms : Nat → Int32) (a_town_houses_tos : Nat → Int32) : Option (Nat × Int32) :=
  bnd (F_X2_deepestHour f_town_houses_size a_town_houses_froms a_town_houses_tos) (fun o1 => brn (o1 = ((-1) : Int32)) (J_X11_deepest_21 f_town_houses_size a_town_houses_froms a_town_houses_tos (0 : Int32) o1) (J_X11_deepest_21 f_town_houses_size a_town_houses_froms a_town_houses_tos (1 : Int32) o1))
theorem dX11_deepest_0 : decode cX11_deepest 0 = .ok (.aload_n 0, 1) := by decide +kernel
theorem dX11_deepest_1 : decode cX11_deepest 1 = .ok (.getfield 10, 3) := by decide +kernel
theorem dX11_deepest_4 : decode cX11_deepest 4 = .ok (.getfield 73, 3) := by decide +kernel
theorem dX11_deepest_7 : decode cX11_deepest 7 = .ok (.invokevirtual 165, 3) := by decide +kernel
theorem dX11_deepest_10 : decode cX11_deepest 10 = .ok (.istore_n 1, 1) := by decide +kernel
theorem dX11_deepest_11 : decode cX11_deepest 11 = .ok (.iload_n 1, 1) := by decide +kernel
theorem dX11_deepest_12 : decode cX11_deepest 12 = .ok (.iconst (-1), 1) := by decide +kernel
theorem dX11_deepest_13 : decode cX11_deepest 13 = .ok (.if_icmp .eq 7, 3) := by decide +kernel
theorem dX11_deepest_16 : decode cX11_deepest 16 = .ok (.iconst 1, 1) := by decide +kernel
theorem dX11_deepest_17 : decode cX11_deepest 17 = .ok (.goto 4, 3) := by decide +kernel
theorem dX11_deepest_20 : decode cX11_deepest 20 = .ok (.iconst 0, 1) := by decide +kernel
theorem dX11_deepest_21 : decode cX11_deepest 21 = .ok (.invokestatic 169, 3) := by decide +kernel
theorem dX11_deepest_24 : decode cX11_deepest 24 = .ok (.iload_n 1, 1) := by decide +kernel
theorem dX11_deepest_25 : decode cX11_deepest 25 = .ok (.ireturn, 1) := by decide +kernel
theorem k_X11_deepest : cardV yX11_deepest (Cond.code yX11_deepest cX11_deepest 2 (some .int)) 0 := ⟨⟨qi_X11_deepest, qv_X11_deepest⟩, qc_X11_deepest, qn_X11, by decide +kernel, by decide +kernel, by decide +kernel⟩
set_option maxHeartbeats 4000000 in
set_option maxRecDepth 100000 in
theorem c_X11_deepest (l : Launch) (hfl : l.stackTraces = false) (ak av : Nat → Nat) (aS : Nat) (D : va_G) (g : Nat → ClassId) (q_this q_town q_ahead q_kept q_past q_reason q_orders q_ways q_sheet q_town_houses q_town_halls q_town_posts q_town_blocks q_town_kinds q_town_houses_cells q_town_houses_froms q_town_houses_tos q_town_houses_rings q_town_houses_pranks : Nat) (f_isKept : Int32) (f_town_hour : Int32) (f_town_day : Int32) (f_town_prankHouse : Int32) (f_town_bells : Int32) (f_town_echoes : Int32) (f_town_bellPranks : Int32) (f_town_houses_size : Int32) (a_town_houses_froms : Nat → Int32) (a_town_houses_tos : Nat → Int32) (o : Nat × Int32) (h : F_X11_deepest f_town_houses_size a_town_houses_froms a_town_houses_tos = some o) : MX l yX11_deepest (Cond.code yX11_deepest cX11_deepest 2 (some .int)) { frames := 8, cells := 1, slots := 6, locals := 130 } ak av aS D g [.ref q_this] [(q_this, .inr (11, [.ref q_town, .ref q_ahead, .ref q_kept, .int f_isKept, .ref q_past, .ref q_reason, .ref q_orders, .ref q_ways, .ref q_sheet])), (q_town, .inr (9, [.ref q_town_houses, .ref q_town_halls, .ref q_town_posts, .ref q_town_blocks, .ref q_town_kinds, .int f_town_hour, .int f_town_day, .int f_town_prankHouse, .int f_town_bells, .int f_town_echoes, .int f_town_bellPranks])), (q_town_houses, .inr (3, [.int f_town_houses_size, .ref q_town_houses_cells, .ref q_town_houses_froms, .ref q_town_houses_tos, .ref q_town_houses_rings, .ref q_town_houses_pranks])), (q_town_houses_froms, .inl (g 0, 10, .inl a_town_houses_froms)), (q_town_houses_tos, .inl (g 0, 10, .inl a_town_houses_tos))] o.1 (some (.int o.2)) [(q_this, .inr (11, [.ref q_town, .ref q_ahead, .ref q_kept, .int f_isKept, .ref q_past, .ref q_reason, .ref q_orders, .ref q_ways, .ref q_sheet])), (q_town, .inr (9, [.ref q_town_houses, .ref q_town_halls, .ref q_town_posts, .ref q_town_blocks, .ref q_town_kinds, .int f_town_hour, .int f_town_day, .int f_town_prankHouse, .int f_town_bells, .int f_town_echoes, .int f_town_bellPranks])), (q_town_houses, .inr (3, [.int f_town_houses_size, .ref q_town_houses_cells, .ref q_town_houses_froms, .ref q_town_houses_tos, .ref q_town_houses_rings, .ref q_town_houses_pranks])), (q_town_houses_froms, .inl (g 0, 10, .inl a_town_houses_froms)), (q_town_houses_tos, .inl (g 0, 10, .inl a_town_houses_tos))] 1 6 := by
  refine z_ex_start (by decide) (Nat.le_of_ble_eq_true rfl) ?_
  intro p e s m args below meth c Q A X hr hE hA hno hQ
  refine z_lv (lv' := [(0, .ref q_this)]) rfl ?_
  have H21 : ∀ (t0 : Int32) (x1 : Int32), J_X11_deepest_21 f_town_houses_size a_town_houses_froms a_town_houses_tos t0 x1 = some o → Z p l e { frames := 8, cells := 1, slots := 6, locals := 130 } s m args below meth c Q 2 0 0 (IW D A s [(q_this, .inr (11, [.ref q_town, .ref q_ahead, .ref q_kept, .int f_isKept, .ref q_past, .ref q_reason, .ref q_orders, .ref q_ways, .ref q_sheet])), (q_town, .inr (9, [.ref q_town_houses, .ref q_town_halls, .ref q_town_posts, .ref q_town_blocks, .ref q_town_kinds, .int f_town_hour, .int f_town_day, .int f_town_prankHouse, .int f_town_bells, .int f_town_echoes, .int f_town_bellPranks])), (q_town_houses, .inr (3, [.int f_town_houses_size, .ref q_town_houses_cells, .ref q_town_houses_froms, .ref q_town_houses_tos, .ref q_town_houses_rings, .ref q_town_houses_pranks])), (q_town_houses_froms, .inl (g 0, 10, .inl a_town_houses_froms)), (q_town_houses_tos, .inl (g 0, 10, .inl a_town_houses_tos))]) 21 [(1, .int x1)] [.int t0] := by
    intro t0 x1 h
    obtain ⟨o3, e4, h⟩ := bnd_p h
    refine z_exS (rest := []) (ws' := [(q_this, .inr (11, [.ref q_town, .ref q_ahead, .ref q_kept, .int f_isKept, .ref q_past, .ref q_reason, .ref q_orders, .ref q_ways, .ref q_sheet])), (q_town, .inr (9, [.ref q_town_houses, .ref q_town_halls, .ref q_town_posts, .ref q_town_blocks, .ref q_town_kinds, .int f_town_hour, .int f_town_day, .int f_town_prankHouse, .int f_town_bells, .int f_town_echoes, .int f_town_bellPranks])), (q_town_houses, .inr (3, [.int f_town_houses_size, .ref q_town_houses_cells, .ref q_town_houses_froms, .ref q_town_houses_tos, .ref q_town_houses_rings, .ref q_town_houses_pranks])), (q_town_houses_froms, .inl (g 0, 10, .inl a_town_houses_froms)), (q_town_houses_tos, .inl (g 0, 10, .inl a_town_houses_tos))]) X hE hA k_X11_demandFound (c_X11_demandFound l hfl ak av aS D g t0 o3 e4) ql_X11_X11_demandFound dX11_deepest_21 bkc_nil bk_nil rfl rfl ⟨Nat.le_of_ble_eq_true rfl, Nat.le_of_ble_eq_true rfl, rfl, rfl, Nat.le_of_ble_eq_true rfl, Nat.le_of_ble_eq_true rfl⟩ (Nat.le_of_ble_eq_true rfl) (fun x5 => ?_) (fun x5 => ?_)
    · have h := brn_t h x5
      refine z_iload_n X 0 dX11_deepest_24 rfl rfl ?_
      cases h
      exact z_iretX X hQ (Nat.le_of_ble_eq_true rfl) (Nat.le_of_ble_eq_true rfl) hr dX11_deepest_25
    · have h := brn_f h x5
      cases h
      exact zt_out (lv := [(1, .int x1)]) X hno hQ x5 (Nat.le_of_ble_eq_true rfl) (Nat.le_of_ble_eq_true rfl)
  refine z_aload_n X 0 dX11_deepest_0 rfl rfl ?_
  refine z_get (q0 := 0) (k := 0) (ci := 11) X IW_P iw_X11 rfl qf_X11_X11_town (by decide) dX11_deepest_1 rfl rfl ?_
  refine z_getN (q0 := 1) (k := 0) (ci := 9) X IW_P iw_X9 rfl qfN_X11_X9_houses (by decide) dX11_deepest_4 rfl rfl ?_
  obtain ⟨o1, e2, h⟩ := bnd_p h
  refine z_rdV (rest := []) (q0 := 2) (ci := 3) X IW_P k_X2_deepestHour (c_X2_deepestHour l D g q_town_houses q_town_houses_cells q_town_houses_froms q_town_houses_tos q_town_houses_rings q_town_houses_pranks f_town_houses_size a_town_houses_froms a_town_houses_tos o1 e2) ql_X11_X2_deepestHour dX11_deepest_7 [2, 3, 4] rfl rfl rfl rfl rfl rfl ⟨Nat.le_of_ble_eq_true rfl, Nat.le_of_ble_eq_true rfl, rfl, rfl, Nat.le_of_ble_eq_true rfl, Nat.le_of_ble_eq_true rfl⟩ (Nat.le_of_ble_eq_true rfl) ?_
  refine z_istore_n X [(1, .int o1), (0, .ref q_this)] dX11_deepest_10 rfl (by decide) rfl ?_
  refine z_iload_n X 0 dX11_deepest_11 rfl rfl ?_
  refine z_iconst X ((-1) : Int32) dX11_deepest_12 (by decide) ?_
  refine z_icmp_eq X 20 dX11_deepest_13 (by decide) h (fun _ h => ?_) (fun _ h => ?_)
  · refine z_iconst X (0 : Int32) dX11_deepest_20 (by decide) ?_
    refine z_widen (k := 0) (n := 0) (Nat.le_of_ble_eq_true rfl) (Nat.le_of_ble_eq_true rfl) ?_
    refine z_sub (lv' := [(1, .int o1)]) [0] rfl ?_
    exact H21 (0 : Int32) o1 h
  · refine z_iconst X (1 : Int32) dX11_deepest_16 (by decide) ?_
    refine z_goto X 21 dX11_deepest_17 (by decide) ?_
    refine z_widen (k := 0) (n := 0) (Nat.le_of_ble_eq_true rfl) (Nat.le_of_ble_eq_true rfl) ?_
    refine z_sub (lv' := [(1, .int o1)]) [0] rfl ?_
    exact H21 (1 : Int32) o1 h

def F_X11_classOf (p1 : Int32) (p2 : Int32) (p3 : Int32) (p4 : Int32) (f_town_houses_size : Int32) (a_town_houses_froms : Nat → Int32) (a_town_houses_tos : Nat → Int32) : Option (Nat × Int32) :=
  bnd (F_X9_judgeRing p1 p3 p4 f_town_houses_size) (fun o1 => bnd (F_X11_demandFine o1) (fun o3 => brn (o3 = 0) (bnd (F_X11_isHour p2) (fun o6 => bnd (F_X11_demandProper o6) (fun o8 => brn (o8 = 0) (bnd (F_X9_kindAt p1 p2 p3 p4 a_town_houses_froms a_town_houses_tos) (fun o11 => some (0, o11))) (some (o8, (0 : Int32)))))) (some (o3, (0 : Int32)))))
theorem dX11_classOf_0 : decode cX11_classOf 0 = .ok (.aload_n 0, 1) := by decide +kernel
theorem dX11_classOf_1 : decode cX11_classOf 1 = .ok (.getfield 10, 3) := by decide +kernel
theorem dX11_classOf_4 : decode cX11_classOf 4 = .ok (.iload_n 1, 1) := by decide +kernel
theorem dX11_classOf_5 : decode cX11_classOf 5 = .ok (.iload_n 3, 1) := by decide +kernel
theorem dX11_classOf_6 : decode cX11_classOf 6 = .ok (.iload 4, 2) := by decide +kernel
theorem dX11_classOf_8 : decode cX11_classOf 8 = .ok (.invokevirtual 172, 3) := by decide +kernel
theorem dX11_classOf_11 : decode cX11_classOf 11 = .ok (.invokestatic 65, 3) := by decide +kernel
theorem dX11_classOf_14 : decode cX11_classOf 14 = .ok (.iload_n 2, 1) := by decide +kernel
theorem dX11_classOf_15 : decode cX11_classOf 15 = .ok (.invokestatic 156, 3) := by decide +kernel
theorem dX11_classOf_18 : decode cX11_classOf 18 = .ok (.invokestatic 124, 3) := by decide +kernel
theorem dX11_classOf_21 : decode cX11_classOf 21 = .ok (.aload_n 0, 1) := by decide +kernel
theorem dX11_classOf_22 : decode cX11_classOf 22 = .ok (.getfield 10, 3) := by decide +kernel
theorem dX11_classOf_25 : decode cX11_classOf 25 = .ok (.iload_n 1, 1) := by decide +kernel
theorem dX11_classOf_26 : decode cX11_classOf 26 = .ok (.iload_n 2, 1) := by decide +kernel
theorem dX11_classOf_27 : decode cX11_classOf 27 = .ok (.iload_n 3, 1) := by decide +kernel
theorem dX11_classOf_28 : decode cX11_classOf 28 = .ok (.iload 4, 2) := by decide +kernel
theorem dX11_classOf_30 : decode cX11_classOf 30 = .ok (.invokevirtual 178, 3) := by decide +kernel
theorem dX11_classOf_33 : decode cX11_classOf 33 = .ok (.ireturn, 1) := by decide +kernel
theorem k_X11_classOf : cardV yX11_classOf (Cond.code yX11_classOf cX11_classOf 5 (some .int)) 4 := ⟨⟨qi_X11_classOf, qv_X11_classOf⟩, qc_X11_classOf, qn_X11, by decide +kernel, by decide +kernel, by decide +kernel⟩
set_option maxHeartbeats 4000000 in
set_option maxRecDepth 100000 in
theorem c_X11_classOf (l : Launch) (hfl : l.stackTraces = false) (ak av : Nat → Nat) (aS : Nat) (D : va_G) (g : Nat → ClassId) (q_this q_town q_ahead q_kept q_past q_reason q_orders q_ways q_sheet q_town_houses q_town_halls q_town_posts q_town_blocks q_town_kinds q_town_houses_cells q_town_houses_froms q_town_houses_tos q_town_houses_rings q_town_houses_pranks : Nat) (p1 p2 p3 p4 : Int32) (f_isKept : Int32) (f_town_hour : Int32) (f_town_day : Int32) (f_town_prankHouse : Int32) (f_town_bells : Int32) (f_town_echoes : Int32) (f_town_bellPranks : Int32) (f_town_houses_size : Int32) (a_town_houses_froms : Nat → Int32) (a_town_houses_tos : Nat → Int32) (o : Nat × Int32) (h : F_X11_classOf p1 p2 p3 p4 f_town_houses_size a_town_houses_froms a_town_houses_tos = some o) : MX l yX11_classOf (Cond.code yX11_classOf cX11_classOf 5 (some .int)) { frames := 9, cells := 4, slots := 24, locals := 150 } ak av aS D g [.ref q_this, .int p1, .int p2, .int p3, .int p4] [(q_this, .inr (11, [.ref q_town, .ref q_ahead, .ref q_kept, .int f_isKept, .ref q_past, .ref q_reason, .ref q_orders, .ref q_ways, .ref q_sheet])), (q_town, .inr (9, [.ref q_town_houses, .ref q_town_halls, .ref q_town_posts, .ref q_town_blocks, .ref q_town_kinds, .int f_town_hour, .int f_town_day, .int f_town_prankHouse, .int f_town_bells, .int f_town_echoes, .int f_town_bellPranks])), (q_town_houses, .inr (3, [.int f_town_houses_size, .ref q_town_houses_cells, .ref q_town_houses_froms, .ref q_town_houses_tos, .ref q_town_houses_rings, .ref q_town_houses_pranks])), (q_town_houses_froms, .inl (g 0, 10, .inl a_town_houses_froms)), (q_town_houses_tos, .inl (g 0, 10, .inl a_town_houses_tos))] o.1 (some (.int o.2)) [(q_this, .inr (11, [.ref q_town, .ref q_ahead, .ref q_kept, .int f_isKept, .ref q_past, .ref q_reason, .ref q_orders, .ref q_ways, .ref q_sheet])), (q_town, .inr (9, [.ref q_town_houses, .ref q_town_halls, .ref q_town_posts, .ref q_town_blocks, .ref q_town_kinds, .int f_town_hour, .int f_town_day, .int f_town_prankHouse, .int f_town_bells, .int f_town_echoes, .int f_town_bellPranks])), (q_town_houses, .inr (3, [.int f_town_houses_size, .ref q_town_houses_cells, .ref q_town_houses_froms, .ref q_town_houses_tos, .ref q_town_houses_rings, .ref q_town_houses_pranks])), (q_town_houses_froms, .inl (g 0, 10, .inl a_town_houses_froms)), (q_town_houses_tos, .inl (g 0, 10, .inl a_town_houses_tos))] 4 24 := by
  refine z_ex_start (by decide) (Nat.le_of_ble_eq_true rfl) ?_
  intro p e s m args below meth c Q A X hr hE hA hno hQ
  refine z_lv (lv' := [(0, .ref q_this), (1, .int p1), (2, .int p2), (3, .int p3), (4, .int p4)]) rfl ?_
  refine z_aload_n X 0 dX11_classOf_0 rfl rfl ?_
  refine z_get (q0 := 0) (k := 0) (ci := 11) X IW_P iw_X11 rfl qf_X11_X11_town (by decide) dX11_classOf_1 rfl rfl ?_
  refine z_iload_n X 1 dX11_classOf_4 rfl rfl ?_
  refine z_iload_n X 3 dX11_classOf_5 rfl rfl ?_
  refine z_iload X 4 dX11_classOf_6 rfl ?_
  obtain ⟨o1, e2, h⟩ := bnd_p h
  refine z_rdV (rest := []) (q0 := 1) (ci := 9) X IW_P k_X9_judgeRing (c_X9_judgeRing l D g q_town q_town_houses q_town_halls q_town_posts q_town_blocks q_town_kinds q_town_houses_cells q_town_houses_froms q_town_houses_tos q_town_houses_rings q_town_houses_pranks p1 p3 p4 f_town_hour f_town_day f_town_prankHouse f_town_bells f_town_echoes f_town_bellPranks f_town_houses_size o1 e2) ql_X11_X9_judgeRing dX11_classOf_8 [1, 2] rfl rfl rfl rfl rfl rfl ⟨Nat.le_of_ble_eq_true rfl, Nat.le_of_ble_eq_true rfl, rfl, rfl, Nat.le_of_ble_eq_true rfl, Nat.le_of_ble_eq_true rfl⟩ (Nat.le_of_ble_eq_true rfl) ?_
  obtain ⟨o3, e4, h⟩ := bnd_p h
  refine z_exS (rest := []) (ws' := [(q_this, .inr (11, [.ref q_town, .ref q_ahead, .ref q_kept, .int f_isKept, .ref q_past, .ref q_reason, .ref q_orders, .ref q_ways, .ref q_sheet])), (q_town, .inr (9, [.ref q_town_houses, .ref q_town_halls, .ref q_town_posts, .ref q_town_blocks, .ref q_town_kinds, .int f_town_hour, .int f_town_day, .int f_town_prankHouse, .int f_town_bells, .int f_town_echoes, .int f_town_bellPranks])), (q_town_houses, .inr (3, [.int f_town_houses_size, .ref q_town_houses_cells, .ref q_town_houses_froms, .ref q_town_houses_tos, .ref q_town_houses_rings, .ref q_town_houses_pranks])), (q_town_houses_froms, .inl (g 0, 10, .inl a_town_houses_froms)), (q_town_houses_tos, .inl (g 0, 10, .inl a_town_houses_tos))]) X hE hA k_X11_demandFine (c_X11_demandFine l hfl ak av aS D g o1 o3 e4) ql_X11_X11_demandFine dX11_classOf_11 bkc_nil bk_nil rfl rfl ⟨Nat.le_of_ble_eq_true rfl, Nat.le_of_ble_eq_true rfl, rfl, rfl, Nat.le_of_ble_eq_true rfl, Nat.le_of_ble_eq_true rfl⟩ (Nat.le_of_ble_eq_true rfl) (fun x5 => ?_) (fun x5 => ?_)
  · have h := brn_t h x5
    refine z_iload_n X 2 dX11_classOf_14 rfl rfl ?_
    obtain ⟨o6, e7, h⟩ := bnd_p h
    refine z_rdS (rest := []) X IW_P k_X11_isHour (c_X11_isHour l D g p2 o6 e7) ql_X11_X11_isHour dX11_classOf_15 [] rfl rfl rfl ⟨Nat.le_of_ble_eq_true rfl, Nat.le_of_ble_eq_true rfl, rfl, rfl, Nat.le_of_ble_eq_true rfl, Nat.le_of_ble_eq_true rfl⟩ (Nat.le_of_ble_eq_true rfl) ?_
    obtain ⟨o8, e9, h⟩ := bnd_p h
    refine z_exS (rest := []) (ws' := [(q_this, .inr (11, [.ref q_town, .ref q_ahead, .ref q_kept, .int f_isKept, .ref q_past, .ref q_reason, .ref q_orders, .ref q_ways, .ref q_sheet])), (q_town, .inr (9, [.ref q_town_houses, .ref q_town_halls, .ref q_town_posts, .ref q_town_blocks, .ref q_town_kinds, .int f_town_hour, .int f_town_day, .int f_town_prankHouse, .int f_town_bells, .int f_town_echoes, .int f_town_bellPranks])), (q_town_houses, .inr (3, [.int f_town_houses_size, .ref q_town_houses_cells, .ref q_town_houses_froms, .ref q_town_houses_tos, .ref q_town_houses_rings, .ref q_town_houses_pranks])), (q_town_houses_froms, .inl (g 0, 10, .inl a_town_houses_froms)), (q_town_houses_tos, .inl (g 0, 10, .inl a_town_houses_tos))]) X hE hA k_X11_demandProper (c_X11_demandProper l hfl ak av aS D g o6 o8 e9) ql_X11_X11_demandProper dX11_classOf_18 bkc_nil bk_nil rfl rfl ⟨Nat.le_of_ble_eq_true rfl, Nat.le_of_ble_eq_true rfl, rfl, rfl, Nat.le_of_ble_eq_true rfl, Nat.le_of_ble_eq_true rfl⟩ (Nat.le_of_ble_eq_true rfl) (fun x10 => ?_) (fun x10 => ?_)
    · have h := brn_t h x10
      refine z_aload_n X 0 dX11_classOf_21 rfl rfl ?_
      refine z_get (q0 := 0) (k := 0) (ci := 11) X IW_P iw_X11 rfl qf_X11_X11_town (by decide) dX11_classOf_22 rfl rfl ?_
      refine z_iload_n X 1 dX11_classOf_25 rfl rfl ?_
      refine z_iload_n X 2 dX11_classOf_26 rfl rfl ?_
      refine z_iload_n X 3 dX11_classOf_27 rfl rfl ?_
      refine z_iload X 4 dX11_classOf_28 rfl ?_
      obtain ⟨o11, e12, h⟩ := bnd_p h
      refine z_rdV (rest := []) (q0 := 1) (ci := 9) X IW_P k_X9_kindAt (c_X9_kindAt l D g q_town q_town_houses q_town_halls q_town_posts q_town_blocks q_town_kinds q_town_houses_cells q_town_houses_froms q_town_houses_tos q_town_houses_rings q_town_houses_pranks p1 p2 p3 p4 f_town_hour f_town_day f_town_prankHouse f_town_bells f_town_echoes f_town_bellPranks f_town_houses_size a_town_houses_froms a_town_houses_tos o11 e12) ql_X11_X9_kindAt dX11_classOf_30 [1, 2, 3, 4] rfl rfl rfl rfl rfl rfl ⟨Nat.le_of_ble_eq_true rfl, Nat.le_of_ble_eq_true rfl, rfl, rfl, Nat.le_of_ble_eq_true rfl, Nat.le_of_ble_eq_true rfl⟩ (Nat.le_of_ble_eq_true rfl) ?_
      cases h
      exact z_iretX X hQ (Nat.le_of_ble_eq_true rfl) (Nat.le_of_ble_eq_true rfl) hr dX11_classOf_33
    · have h := brn_f h x10
      cases h
      exact zt_out (lv := [(0, .ref q_this), (1, .int p1), (2, .int p2), (3, .int p3), (4, .int p4)]) X hno hQ x10 (Nat.le_of_ble_eq_true rfl) (Nat.le_of_ble_eq_true rfl)
  · have h := brn_f h x5
    cases h
    exact zt_out (lv := [(0, .ref q_this), (1, .int p1), (2, .int p2), (3, .int p3), (4, .int p4)]) X hno hQ x5 (Nat.le_of_ble_eq_true rfl) (Nat.le_of_ble_eq_true rfl)

def J_X11_echo_33 (p1 : Int32) (p2 : Int32) (p3 : Int32) (f_town_houses_size : Int32) (a_town_houses_cells : Nat → Int32) (f_town_halls_size : Int32) (a_town_halls_rows : Nat → Int32) (a_town_halls_firsts : Nat → Int32) (a_town_halls_lasts : Nat → Int32) (t0 : Int32) : Option (Nat × Int32) :=
  bnd (F_X11_demandListed t0) (fun o3 => brn (o3 = 0) (bnd (F_X11_isTones p3) (fun o6 => bnd (F_X11_demandProper o6) (fun o8 => brn (o8 = 0) (bnd (F_X9_isEchoed p1 p2 a_town_houses_cells f_town_halls_size a_town_halls_rows a_town_halls_firsts a_town_halls_lasts) (fun o11 => bnd (F_X11_demandFound o11) (fun o13 => brn (o13 = 0) (bnd (F_X9_shortsLeft p1 p2 p3 a_town_houses_cells) (fun o16 => some (0, o16))) (some (o13, (0 : Int32)))))) (some (o8, (0 : Int32)))))) (some (o3, (0 : Int32))))

def J_X11_echo_32 (p1 : Int32) (p2 : Int32) (p3 : Int32) (f_town_houses_size : Int32) (a_town_houses_cells : Nat → Int32) (f_town_halls_size : Int32) (a_town_halls_rows : Nat → Int32) (a_town_halls_firsts : Nat → Int32) (a_town_halls_lasts : Nat → Int32) : Option (Nat × Int32) :=
  J_X11_echo_33 p1 p2 p3 f_town_houses_size a_town_houses_cells f_town_halls_size a_town_halls_rows a_town_halls_firsts a_town_halls_lasts (0 : Int32)

def F_X11_echo (p1 : Int32) (p2 : Int32) (p3 : Int32) (f_town_houses_size : Int32) (a_town_houses_cells : Nat → Int32) (f_town_halls_size : Int32) (a_town_halls_rows : Nat → Int32) (a_town_halls_firsts : Nat → Int32) (a_town_halls_lasts : Nat → Int32) : Option (Nat × Int32) :=
  bnd (F_X2_has p1 f_town_houses_size) (fun o1 => brn (o1 = 0) (J_X11_echo_32 p1 p2 p3 f_town_houses_size a_town_houses_cells f_town_halls_size a_town_halls_rows a_town_halls_firsts a_town_halls_lasts) (bnd (F_X2_has p2 f_town_houses_size) (fun o18 => brn (o18 = 0) (J_X11_echo_32 p1 p2 p3 f_town_houses_size a_town_houses_cells f_town_halls_size a_town_halls_rows a_town_halls_firsts a_town_halls_lasts) (J_X11_echo_33 p1 p2 p3 f_town_houses_size a_town_houses_cells f_town_halls_size a_town_halls_rows a_town_halls_firsts a_town_halls_lasts (1 : Int32)))))
theorem dX11_echo_0 : decode cX11_echo 0 = .ok (.aload_n 0, 1) := by decide +kernel
theorem dX11_echo_1 : decode cX11_echo 1 = .ok (.getfield 10, 3) := by decide +kernel
theorem dX11_echo_4 : decode cX11_echo 4 = .ok (.getfield 73, 3) := by decide +kernel
theorem dX11_echo_7 : decode cX11_echo 7 = .ok (.iload_n 1, 1) := by decide +kernel
theorem dX11_echo_8 : decode cX11_echo 8 = .ok (.invokevirtual 83, 3) := by decide +kernel
theorem dX11_echo_11 : decode cX11_echo 11 = .ok (.ifCond .eq 21, 3) := by decide +kernel
theorem dX11_echo_14 : decode cX11_echo 14 = .ok (.aload_n 0, 1) := by decide +kernel
theorem dX11_echo_15 : decode cX11_echo 15 = .ok (.getfield 10, 3) := by decide +kernel
theorem dX11_echo_18 : decode cX11_echo 18 = .ok (.getfield 73, 3) := by decide +kernel
theorem dX11_echo_21 : decode cX11_echo 21 = .ok (.iload_n 2, 1) := by decide +kernel
theorem dX11_echo_22 : decode cX11_echo 22 = .ok (.invokevirtual 83, 3) := by decide +kernel
theorem dX11_echo_25 : decode cX11_echo 25 = .ok (.ifCond .eq 7, 3) := by decide +kernel
theorem dX11_echo_28 : decode cX11_echo 28 = .ok (.iconst 1, 1) := by decide +kernel
theorem dX11_echo_29 : decode cX11_echo 29 = .ok (.goto 4, 3) := by decide +kernel
theorem dX11_echo_32 : decode cX11_echo 32 = .ok (.iconst 0, 1) := by decide +kernel
theorem dX11_echo_33 : decode cX11_echo 33 = .ok (.invokestatic 87, 3) := by decide +kernel
theorem dX11_echo_36 : decode cX11_echo 36 = .ok (.iload_n 3, 1) := by decide +kernel
theorem dX11_echo_37 : decode cX11_echo 37 = .ok (.invokestatic 182, 3) := by decide +kernel
theorem dX11_echo_40 : decode cX11_echo 40 = .ok (.invokestatic 124, 3) := by decide +kernel
theorem dX11_echo_43 : decode cX11_echo 43 = .ok (.aload_n 0, 1) := by decide +kernel
theorem dX11_echo_44 : decode cX11_echo 44 = .ok (.getfield 10, 3) := by decide +kernel
theorem dX11_echo_47 : decode cX11_echo 47 = .ok (.iload_n 1, 1) := by decide +kernel
theorem dX11_echo_48 : decode cX11_echo 48 = .ok (.iload_n 2, 1) := by decide +kernel
theorem dX11_echo_49 : decode cX11_echo 49 = .ok (.invokevirtual 185, 3) := by decide +kernel
theorem dX11_echo_52 : decode cX11_echo 52 = .ok (.invokestatic 169, 3) := by decide +kernel
theorem dX11_echo_55 : decode cX11_echo 55 = .ok (.aload_n 0, 1) := by decide +kernel
theorem dX11_echo_56 : decode cX11_echo 56 = .ok (.getfield 10, 3) := by decide +kernel
theorem dX11_echo_59 : decode cX11_echo 59 = .ok (.iload_n 1, 1) := by decide +kernel
theorem dX11_echo_60 : decode cX11_echo 60 = .ok (.iload_n 2, 1) := by decide +kernel
theorem dX11_echo_61 : decode cX11_echo 61 = .ok (.iload_n 3, 1) := by decide +kernel
theorem dX11_echo_62 : decode cX11_echo 62 = .ok (.invokevirtual 188, 3) := by decide +kernel
theorem dX11_echo_65 : decode cX11_echo 65 = .ok (.ireturn, 1) := by decide +kernel
theorem k_X11_echo : cardV yX11_echo (Cond.code yX11_echo cX11_echo 4 (some .int)) 3 := ⟨⟨qi_X11_echo, qv_X11_echo⟩, qc_X11_echo, qn_X11, by decide +kernel, by decide +kernel, by decide +kernel⟩
set_option maxHeartbeats 4000000 in
set_option maxRecDepth 100000 in
theorem c_X11_echo (l : Launch) (hfl : l.stackTraces = false) (ak av : Nat → Nat) (aS : Nat) (D : va_G) (g : Nat → ClassId) (q_this q_town q_ahead q_kept q_past q_reason q_orders q_ways q_sheet q_town_houses q_town_halls q_town_posts q_town_blocks q_town_kinds q_town_houses_cells q_town_houses_froms q_town_houses_tos q_town_houses_rings q_town_houses_pranks q_town_halls_rows q_town_halls_firsts q_town_halls_lasts : Nat) (p1 p2 p3 : Int32) (f_isKept : Int32) (f_town_hour : Int32) (f_town_day : Int32) (f_town_prankHouse : Int32) (f_town_bells : Int32) (f_town_echoes : Int32) (f_town_bellPranks : Int32) (f_town_houses_size : Int32) (a_town_houses_cells : Nat → Int32) (f_town_halls_size : Int32) (a_town_halls_rows : Nat → Int32) (a_town_halls_firsts : Nat → Int32) (a_town_halls_lasts : Nat → Int32) (o : Nat × Int32) (h : F_X11_echo p1 p2 p3 f_town_houses_size a_town_houses_cells f_town_halls_size a_town_halls_rows a_town_halls_firsts a_town_halls_lasts = some o) : MX l yX11_echo (Cond.code yX11_echo cX11_echo 4 (some .int)) { frames := 8, cells := 3, slots := 18, locals := 130 } ak av aS D g [.ref q_this, .int p1, .int p2, .int p3] [(q_this, .inr (11, [.ref q_town, .ref q_ahead, .ref q_kept, .int f_isKept, .ref q_past, .ref q_reason, .ref q_orders, .ref q_ways, .ref q_sheet])), (q_town, .inr (9, [.ref q_town_houses, .ref q_town_halls, .ref q_town_posts, .ref q_town_blocks, .ref q_town_kinds, .int f_town_hour, .int f_town_day, .int f_town_prankHouse, .int f_town_bells, .int f_town_echoes, .int f_town_bellPranks])), (q_town_houses, .inr (3, [.int f_town_houses_size, .ref q_town_houses_cells, .ref q_town_houses_froms, .ref q_town_houses_tos, .ref q_town_houses_rings, .ref q_town_houses_pranks])), (q_town_houses_cells, .inl (g 0, 10, .inl a_town_houses_cells)), (q_town_halls, .inr (2, [.int f_town_halls_size, .ref q_town_halls_rows, .ref q_town_halls_firsts, .ref q_town_halls_lasts])), (q_town_halls_rows, .inl (g 0, 4, .inl a_town_halls_rows)), (q_town_halls_firsts, .inl (g 0, 4, .inl a_town_halls_firsts)), (q_town_halls_lasts, .inl (g 0, 4, .inl a_town_halls_lasts))] o.1 (some (.int o.2)) [(q_this, .inr (11, [.ref q_town, .ref q_ahead, .ref q_kept, .int f_isKept, .ref q_past, .ref q_reason, .ref q_orders, .ref q_ways, .ref q_sheet])), (q_town, .inr (9, [.ref q_town_houses, .ref q_town_halls, .ref q_town_posts, .ref q_town_blocks, .ref q_town_kinds, .int f_town_hour, .int f_town_day, .int f_town_prankHouse, .int f_town_bells, .int f_town_echoes, .int f_town_bellPranks])), (q_town_houses, .inr (3, [.int f_town_houses_size, .ref q_town_houses_cells, .ref q_town_houses_froms, .ref q_town_houses_tos, .ref q_town_houses_rings, .ref q_town_houses_pranks])), (q_town_houses_cells, .inl (g 0, 10, .inl a_town_houses_cells)), (q_town_halls, .inr (2, [.int f_town_halls_size, .ref q_town_halls_rows, .ref q_town_halls_firsts, .ref q_town_halls_lasts])), (q_town_halls_rows, .inl (g 0, 4, .inl a_town_halls_rows)), (q_town_halls_firsts, .inl (g 0, 4, .inl a_town_halls_firsts)), (q_town_halls_lasts, .inl (g 0, 4, .inl a_town_halls_lasts))] 3 18 := by
  refine z_ex_start (by decide) (Nat.le_of_ble_eq_true rfl) ?_
  intro p e s m args below meth c Q A X hr hE hA hno hQ
  refine z_lv (lv' := [(0, .ref q_this), (1, .int p1), (2, .int p2), (3, .int p3)]) rfl ?_
  have H33 : ∀ (t0 : Int32), J_X11_echo_33 p1 p2 p3 f_town_houses_size a_town_houses_cells f_town_halls_size a_town_halls_rows a_town_halls_firsts a_town_halls_lasts t0 = some o → Z p l e { frames := 8, cells := 3, slots := 18, locals := 130 } s m args below meth c Q 4 0 0 (IW D A s [(q_this, .inr (11, [.ref q_town, .ref q_ahead, .ref q_kept, .int f_isKept, .ref q_past, .ref q_reason, .ref q_orders, .ref q_ways, .ref q_sheet])), (q_town, .inr (9, [.ref q_town_houses, .ref q_town_halls, .ref q_town_posts, .ref q_town_blocks, .ref q_town_kinds, .int f_town_hour, .int f_town_day, .int f_town_prankHouse, .int f_town_bells, .int f_town_echoes, .int f_town_bellPranks])), (q_town_houses, .inr (3, [.int f_town_houses_size, .ref q_town_houses_cells, .ref q_town_houses_froms, .ref q_town_houses_tos, .ref q_town_houses_rings, .ref q_town_houses_pranks])), (q_town_houses_cells, .inl (g 0, 10, .inl a_town_houses_cells)), (q_town_halls, .inr (2, [.int f_town_halls_size, .ref q_town_halls_rows, .ref q_town_halls_firsts, .ref q_town_halls_lasts])), (q_town_halls_rows, .inl (g 0, 4, .inl a_town_halls_rows)), (q_town_halls_firsts, .inl (g 0, 4, .inl a_town_halls_firsts)), (q_town_halls_lasts, .inl (g 0, 4, .inl a_town_halls_lasts))]) 33 [(0, .ref q_this), (1, .int p1), (2, .int p2), (3, .int p3)] [.int t0] := by
    intro t0 h
    obtain ⟨o3, e4, h⟩ := bnd_p h
    refine z_exS (rest := []) (ws' := [(q_this, .inr (11, [.ref q_town, .ref q_ahead, .ref q_kept, .int f_isKept, .ref q_past, .ref q_reason, .ref q_orders, .ref q_ways, .ref q_sheet])), (q_town, .inr (9, [.ref q_town_houses, .ref q_town_halls, .ref q_town_posts, .ref q_town_blocks, .ref q_town_kinds, .int f_town_hour, .int f_town_day, .int f_town_prankHouse, .int f_town_bells, .int f_town_echoes, .int f_town_bellPranks])), (q_town_houses, .inr (3, [.int f_town_houses_size, .ref q_town_houses_cells, .ref q_town_houses_froms, .ref q_town_houses_tos, .ref q_town_houses_rings, .ref q_town_houses_pranks])), (q_town_houses_cells, .inl (g 0, 10, .inl a_town_houses_cells)), (q_town_halls, .inr (2, [.int f_town_halls_size, .ref q_town_halls_rows, .ref q_town_halls_firsts, .ref q_town_halls_lasts])), (q_town_halls_rows, .inl (g 0, 4, .inl a_town_halls_rows)), (q_town_halls_firsts, .inl (g 0, 4, .inl a_town_halls_firsts)), (q_town_halls_lasts, .inl (g 0, 4, .inl a_town_halls_lasts))]) X hE hA k_X11_demandListed (c_X11_demandListed l hfl ak av aS D g t0 o3 e4) ql_X11_X11_demandListed dX11_echo_33 bkc_nil bk_nil rfl rfl ⟨Nat.le_of_ble_eq_true rfl, Nat.le_of_ble_eq_true rfl, rfl, rfl, Nat.le_of_ble_eq_true rfl, Nat.le_of_ble_eq_true rfl⟩ (Nat.le_of_ble_eq_true rfl) (fun x5 => ?_) (fun x5 => ?_)
    · have h := brn_t h x5
      refine z_iload_n X 3 dX11_echo_36 rfl rfl ?_
      obtain ⟨o6, e7, h⟩ := bnd_p h
      refine z_rdS (rest := []) X IW_P k_X11_isTones (c_X11_isTones l D g p3 o6 e7) ql_X11_X11_isTones dX11_echo_37 [] rfl rfl rfl ⟨Nat.le_of_ble_eq_true rfl, Nat.le_of_ble_eq_true rfl, rfl, rfl, Nat.le_of_ble_eq_true rfl, Nat.le_of_ble_eq_true rfl⟩ (Nat.le_of_ble_eq_true rfl) ?_
      obtain ⟨o8, e9, h⟩ := bnd_p h
      refine z_exS (rest := []) (ws' := [(q_this, .inr (11, [.ref q_town, .ref q_ahead, .ref q_kept, .int f_isKept, .ref q_past, .ref q_reason, .ref q_orders, .ref q_ways, .ref q_sheet])), (q_town, .inr (9, [.ref q_town_houses, .ref q_town_halls, .ref q_town_posts, .ref q_town_blocks, .ref q_town_kinds, .int f_town_hour, .int f_town_day, .int f_town_prankHouse, .int f_town_bells, .int f_town_echoes, .int f_town_bellPranks])), (q_town_houses, .inr (3, [.int f_town_houses_size, .ref q_town_houses_cells, .ref q_town_houses_froms, .ref q_town_houses_tos, .ref q_town_houses_rings, .ref q_town_houses_pranks])), (q_town_houses_cells, .inl (g 0, 10, .inl a_town_houses_cells)), (q_town_halls, .inr (2, [.int f_town_halls_size, .ref q_town_halls_rows, .ref q_town_halls_firsts, .ref q_town_halls_lasts])), (q_town_halls_rows, .inl (g 0, 4, .inl a_town_halls_rows)), (q_town_halls_firsts, .inl (g 0, 4, .inl a_town_halls_firsts)), (q_town_halls_lasts, .inl (g 0, 4, .inl a_town_halls_lasts))]) X hE hA k_X11_demandProper (c_X11_demandProper l hfl ak av aS D g o6 o8 e9) ql_X11_X11_demandProper dX11_echo_40 bkc_nil bk_nil rfl rfl ⟨Nat.le_of_ble_eq_true rfl, Nat.le_of_ble_eq_true rfl, rfl, rfl, Nat.le_of_ble_eq_true rfl, Nat.le_of_ble_eq_true rfl⟩ (Nat.le_of_ble_eq_true rfl) (fun x10 => ?_) (fun x10 => ?_)
      · have h := brn_t h x10
        refine z_aload_n X 0 dX11_echo_43 rfl rfl ?_
        refine z_get (q0 := 0) (k := 0) (ci := 11) X IW_P iw_X11 rfl qf_X11_X11_town (by decide) dX11_echo_44 rfl rfl ?_
        refine z_iload_n X 1 dX11_echo_47 rfl rfl ?_
        refine z_iload_n X 2 dX11_echo_48 rfl rfl ?_
        obtain ⟨o11, e12, h⟩ := bnd_p h
        refine z_rdV (rest := []) (q0 := 1) (ci := 9) X IW_P k_X9_isEchoed (c_X9_isEchoed l D g q_town q_town_houses q_town_halls q_town_posts q_town_blocks q_town_kinds q_town_houses_cells q_town_houses_froms q_town_houses_tos q_town_houses_rings q_town_houses_pranks q_town_halls_rows q_town_halls_firsts q_town_halls_lasts p1 p2 f_town_hour f_town_day f_town_prankHouse f_town_bells f_town_echoes f_town_bellPranks f_town_houses_size a_town_houses_cells f_town_halls_size a_town_halls_rows a_town_halls_firsts a_town_halls_lasts o11 e12) ql_X11_X9_isEchoed dX11_echo_49 [1, 2, 3, 4, 5, 6, 7] rfl rfl rfl rfl rfl rfl ⟨Nat.le_of_ble_eq_true rfl, Nat.le_of_ble_eq_true rfl, rfl, rfl, Nat.le_of_ble_eq_true rfl, Nat.le_of_ble_eq_true rfl⟩ (Nat.le_of_ble_eq_true rfl) ?_
        obtain ⟨o13, e14, h⟩ := bnd_p h
        refine z_exS (rest := []) (ws' := [(q_this, .inr (11, [.ref q_town, .ref q_ahead, .ref q_kept, .int f_isKept, .ref q_past, .ref q_reason, .ref q_orders, .ref q_ways, .ref q_sheet])), (q_town, .inr (9, [.ref q_town_houses, .ref q_town_halls, .ref q_town_posts, .ref q_town_blocks, .ref q_town_kinds, .int f_town_hour, .int f_town_day, .int f_town_prankHouse, .int f_town_bells, .int f_town_echoes, .int f_town_bellPranks])), (q_town_houses, .inr (3, [.int f_town_houses_size, .ref q_town_houses_cells, .ref q_town_houses_froms, .ref q_town_houses_tos, .ref q_town_houses_rings, .ref q_town_houses_pranks])), (q_town_houses_cells, .inl (g 0, 10, .inl a_town_houses_cells)), (q_town_halls, .inr (2, [.int f_town_halls_size, .ref q_town_halls_rows, .ref q_town_halls_firsts, .ref q_town_halls_lasts])), (q_town_halls_rows, .inl (g 0, 4, .inl a_town_halls_rows)), (q_town_halls_firsts, .inl (g 0, 4, .inl a_town_halls_firsts)), (q_town_halls_lasts, .inl (g 0, 4, .inl a_town_halls_lasts))]) X hE hA k_X11_demandFound (c_X11_demandFound l hfl ak av aS D g o11 o13 e14) ql_X11_X11_demandFound dX11_echo_52 bkc_nil bk_nil rfl rfl ⟨Nat.le_of_ble_eq_true rfl, Nat.le_of_ble_eq_true rfl, rfl, rfl, Nat.le_of_ble_eq_true rfl, Nat.le_of_ble_eq_true rfl⟩ (Nat.le_of_ble_eq_true rfl) (fun x15 => ?_) (fun x15 => ?_)
        · have h := brn_t h x15
          refine z_aload_n X 0 dX11_echo_55 rfl rfl ?_
          refine z_get (q0 := 0) (k := 0) (ci := 11) X IW_P iw_X11 rfl qf_X11_X11_town (by decide) dX11_echo_56 rfl rfl ?_
          refine z_iload_n X 1 dX11_echo_59 rfl rfl ?_
          refine z_iload_n X 2 dX11_echo_60 rfl rfl ?_
          refine z_iload_n X 3 dX11_echo_61 rfl rfl ?_
          obtain ⟨o16, e17, h⟩ := bnd_p h
          refine z_rdV (rest := []) (q0 := 1) (ci := 9) X IW_P k_X9_shortsLeft (c_X9_shortsLeft l D g q_town q_town_houses q_town_halls q_town_posts q_town_blocks q_town_kinds q_town_houses_cells q_town_houses_froms q_town_houses_tos q_town_houses_rings q_town_houses_pranks p1 p2 p3 f_town_hour f_town_day f_town_prankHouse f_town_bells f_town_echoes f_town_bellPranks f_town_houses_size a_town_houses_cells o16 e17) ql_X11_X9_shortsLeft dX11_echo_62 [1, 2, 3] rfl rfl rfl rfl rfl rfl ⟨Nat.le_of_ble_eq_true rfl, Nat.le_of_ble_eq_true rfl, rfl, rfl, Nat.le_of_ble_eq_true rfl, Nat.le_of_ble_eq_true rfl⟩ (Nat.le_of_ble_eq_true rfl) ?_
          cases h
          exact z_iretX X hQ (Nat.le_of_ble_eq_true rfl) (Nat.le_of_ble_eq_true rfl) hr dX11_echo_65
        · have h := brn_f h x15
          cases h
          exact zt_out (lv := [(0, .ref q_this), (1, .int p1), (2, .int p2), (3, .int p3)]) X hno hQ x15 (Nat.le_of_ble_eq_true rfl) (Nat.le_of_ble_eq_true rfl)
      · have h := brn_f h x10
        cases h
        exact zt_out (lv := [(0, .ref q_this), (1, .int p1), (2, .int p2), (3, .int p3)]) X hno hQ x10 (Nat.le_of_ble_eq_true rfl) (Nat.le_of_ble_eq_true rfl)
    · have h := brn_f h x5
      cases h
      exact zt_out (lv := [(0, .ref q_this), (1, .int p1), (2, .int p2), (3, .int p3)]) X hno hQ x5 (Nat.le_of_ble_eq_true rfl) (Nat.le_of_ble_eq_true rfl)
  have H32 : J_X11_echo_32 p1 p2 p3 f_town_houses_size a_town_houses_cells f_town_halls_size a_town_halls_rows a_town_halls_firsts a_town_halls_lasts = some o → Z p l e { frames := 8, cells := 3, slots := 18, locals := 130 } s m args below meth c Q 4 0 0 (IW D A s [(q_this, .inr (11, [.ref q_town, .ref q_ahead, .ref q_kept, .int f_isKept, .ref q_past, .ref q_reason, .ref q_orders, .ref q_ways, .ref q_sheet])), (q_town, .inr (9, [.ref q_town_houses, .ref q_town_halls, .ref q_town_posts, .ref q_town_blocks, .ref q_town_kinds, .int f_town_hour, .int f_town_day, .int f_town_prankHouse, .int f_town_bells, .int f_town_echoes, .int f_town_bellPranks])), (q_town_houses, .inr (3, [.int f_town_houses_size, .ref q_town_houses_cells, .ref q_town_houses_froms, .ref q_town_houses_tos, .ref q_town_houses_rings, .ref q_town_houses_pranks])), (q_town_houses_cells, .inl (g 0, 10, .inl a_town_houses_cells)), (q_town_halls, .inr (2, [.int f_town_halls_size, .ref q_town_halls_rows, .ref q_town_halls_firsts, .ref q_town_halls_lasts])), (q_town_halls_rows, .inl (g 0, 4, .inl a_town_halls_rows)), (q_town_halls_firsts, .inl (g 0, 4, .inl a_town_halls_firsts)), (q_town_halls_lasts, .inl (g 0, 4, .inl a_town_halls_lasts))]) 32 [(0, .ref q_this), (1, .int p1), (2, .int p2), (3, .int p3)] [] := by
    intro  h
    refine z_iconst X (0 : Int32) dX11_echo_32 (by decide) ?_
    refine z_widen (k := 0) (n := 0) (Nat.le_of_ble_eq_true rfl) (Nat.le_of_ble_eq_true rfl) ?_
    exact H33 (0 : Int32) h
  refine z_aload_n X 0 dX11_echo_0 rfl rfl ?_
  refine z_get (q0 := 0) (k := 0) (ci := 11) X IW_P iw_X11 rfl qf_X11_X11_town (by decide) dX11_echo_1 rfl rfl ?_
  refine z_getN (q0 := 1) (k := 0) (ci := 9) X IW_P iw_X9 rfl qfN_X11_X9_houses (by decide) dX11_echo_4 rfl rfl ?_
  refine z_iload_n X 1 dX11_echo_7 rfl rfl ?_
  obtain ⟨o1, e2, h⟩ := bnd_p h
  refine z_rdV (rest := []) (q0 := 2) (ci := 3) X IW_P k_X2_has (c_X2_has l D g q_town_houses q_town_houses_cells q_town_houses_froms q_town_houses_tos q_town_houses_rings q_town_houses_pranks p1 f_town_houses_size o1 e2) ql_X11_X2_has dX11_echo_8 [2] rfl rfl rfl rfl rfl rfl ⟨Nat.le_of_ble_eq_true rfl, Nat.le_of_ble_eq_true rfl, rfl, rfl, Nat.le_of_ble_eq_true rfl, Nat.le_of_ble_eq_true rfl⟩ (Nat.le_of_ble_eq_true rfl) ?_
  refine z_if_eq X 32 dX11_echo_11 (by decide) h (fun _ h => ?_) (fun _ h => ?_)
  · refine z_widen (k := 0) (n := 0) (Nat.le_of_ble_eq_true rfl) (Nat.le_of_ble_eq_true rfl) ?_
    exact H32  h
  · refine z_aload_n X 0 dX11_echo_14 rfl rfl ?_
    refine z_get (q0 := 0) (k := 0) (ci := 11) X IW_P iw_X11 rfl qf_X11_X11_town (by decide) dX11_echo_15 rfl rfl ?_
    refine z_getN (q0 := 1) (k := 0) (ci := 9) X IW_P iw_X9 rfl qfN_X11_X9_houses (by decide) dX11_echo_18 rfl rfl ?_
    refine z_iload_n X 2 dX11_echo_21 rfl rfl ?_
    obtain ⟨o18, e19, h⟩ := bnd_p h
    refine z_rdV (rest := []) (q0 := 2) (ci := 3) X IW_P k_X2_has (c_X2_has l D g q_town_houses q_town_houses_cells q_town_houses_froms q_town_houses_tos q_town_houses_rings q_town_houses_pranks p2 f_town_houses_size o18 e19) ql_X11_X2_has dX11_echo_22 [2] rfl rfl rfl rfl rfl rfl ⟨Nat.le_of_ble_eq_true rfl, Nat.le_of_ble_eq_true rfl, rfl, rfl, Nat.le_of_ble_eq_true rfl, Nat.le_of_ble_eq_true rfl⟩ (Nat.le_of_ble_eq_true rfl) ?_
    refine z_if_eq X 32 dX11_echo_25 (by decide) h (fun _ h => ?_) (fun _ h => ?_)
    · refine z_widen (k := 0) (n := 0) (Nat.le_of_ble_eq_true rfl) (Nat.le_of_ble_eq_true rfl) ?_
      exact H32  h
    · refine z_iconst X (1 : Int32) dX11_echo_28 (by decide) ?_
      refine z_goto X 33 dX11_echo_29 (by decide) ?_
      refine z_widen (k := 0) (n := 0) (Nat.le_of_ble_eq_true rfl) (Nat.le_of_ble_eq_true rfl) ?_
      exact H33 (1 : Int32) h

def F_X11_heard (p1 : Int32) (p2 : Int32) (p3 : Int32) (f_town_houses_size : Int32) (a_town_houses_cells : Nat → Int32) (f_town_halls_size : Int32) (a_town_halls_rows : Nat → Int32) (a_town_halls_firsts : Nat → Int32) (a_town_halls_lasts : Nat → Int32) : Option (Nat × Int32) :=
  bnd (F_X9_judgeRing p1 p2 p3 f_town_houses_size) (fun o1 => bnd (F_X11_demandFine o1) (fun o3 => brn (o3 = 0) (bnd (F_X9_countHearers p1 p2 p3 f_town_houses_size a_town_houses_cells f_town_halls_size a_town_halls_rows a_town_halls_firsts a_town_halls_lasts) (fun o6 => some (0, o6))) (some (o3, (0 : Int32)))))
theorem dX11_heard_0 : decode cX11_heard 0 = .ok (.aload_n 0, 1) := by decide +kernel
theorem dX11_heard_1 : decode cX11_heard 1 = .ok (.getfield 10, 3) := by decide +kernel
theorem dX11_heard_4 : decode cX11_heard 4 = .ok (.iload_n 1, 1) := by decide +kernel
theorem dX11_heard_5 : decode cX11_heard 5 = .ok (.iload_n 2, 1) := by decide +kernel
theorem dX11_heard_6 : decode cX11_heard 6 = .ok (.iload_n 3, 1) := by decide +kernel
theorem dX11_heard_7 : decode cX11_heard 7 = .ok (.invokevirtual 172, 3) := by decide +kernel
theorem dX11_heard_10 : decode cX11_heard 10 = .ok (.invokestatic 65, 3) := by decide +kernel
theorem dX11_heard_13 : decode cX11_heard 13 = .ok (.aload_n 0, 1) := by decide +kernel
theorem dX11_heard_14 : decode cX11_heard 14 = .ok (.getfield 10, 3) := by decide +kernel
theorem dX11_heard_17 : decode cX11_heard 17 = .ok (.iload_n 1, 1) := by decide +kernel
theorem dX11_heard_18 : decode cX11_heard 18 = .ok (.iload_n 2, 1) := by decide +kernel
theorem dX11_heard_19 : decode cX11_heard 19 = .ok (.iload_n 3, 1) := by decide +kernel
theorem dX11_heard_20 : decode cX11_heard 20 = .ok (.invokevirtual 191, 3) := by decide +kernel
theorem dX11_heard_23 : decode cX11_heard 23 = .ok (.ireturn, 1) := by decide +kernel
theorem k_X11_heard : cardV yX11_heard (Cond.code yX11_heard cX11_heard 4 (some .int)) 3 := ⟨⟨qi_X11_heard, qv_X11_heard⟩, qc_X11_heard, qn_X11, by decide +kernel, by decide +kernel, by decide +kernel⟩
set_option maxHeartbeats 4000000 in
set_option maxRecDepth 100000 in
theorem c_X11_heard (l : Launch) (hfl : l.stackTraces = false) (ak av : Nat → Nat) (aS : Nat) (D : va_G) (g : Nat → ClassId) (q_this q_town q_ahead q_kept q_past q_reason q_orders q_ways q_sheet q_town_houses q_town_halls q_town_posts q_town_blocks q_town_kinds q_town_houses_cells q_town_houses_froms q_town_houses_tos q_town_houses_rings q_town_houses_pranks q_town_halls_rows q_town_halls_firsts q_town_halls_lasts : Nat) (p1 p2 p3 : Int32) (f_isKept : Int32) (f_town_hour : Int32) (f_town_day : Int32) (f_town_prankHouse : Int32) (f_town_bells : Int32) (f_town_echoes : Int32) (f_town_bellPranks : Int32) (f_town_houses_size : Int32) (a_town_houses_cells : Nat → Int32) (f_town_halls_size : Int32) (a_town_halls_rows : Nat → Int32) (a_town_halls_firsts : Nat → Int32) (a_town_halls_lasts : Nat → Int32) (o : Nat × Int32) (h : F_X11_heard p1 p2 p3 f_town_houses_size a_town_houses_cells f_town_halls_size a_town_halls_rows a_town_halls_firsts a_town_halls_lasts = some o) : MX l yX11_heard (Cond.code yX11_heard cX11_heard 4 (some .int)) { frames := 9, cells := 3, slots := 18, locals := 150 } ak av aS D g [.ref q_this, .int p1, .int p2, .int p3] [(q_this, .inr (11, [.ref q_town, .ref q_ahead, .ref q_kept, .int f_isKept, .ref q_past, .ref q_reason, .ref q_orders, .ref q_ways, .ref q_sheet])), (q_town, .inr (9, [.ref q_town_houses, .ref q_town_halls, .ref q_town_posts, .ref q_town_blocks, .ref q_town_kinds, .int f_town_hour, .int f_town_day, .int f_town_prankHouse, .int f_town_bells, .int f_town_echoes, .int f_town_bellPranks])), (q_town_houses, .inr (3, [.int f_town_houses_size, .ref q_town_houses_cells, .ref q_town_houses_froms, .ref q_town_houses_tos, .ref q_town_houses_rings, .ref q_town_houses_pranks])), (q_town_houses_cells, .inl (g 0, 10, .inl a_town_houses_cells)), (q_town_halls, .inr (2, [.int f_town_halls_size, .ref q_town_halls_rows, .ref q_town_halls_firsts, .ref q_town_halls_lasts])), (q_town_halls_rows, .inl (g 0, 4, .inl a_town_halls_rows)), (q_town_halls_firsts, .inl (g 0, 4, .inl a_town_halls_firsts)), (q_town_halls_lasts, .inl (g 0, 4, .inl a_town_halls_lasts))] o.1 (some (.int o.2)) [(q_this, .inr (11, [.ref q_town, .ref q_ahead, .ref q_kept, .int f_isKept, .ref q_past, .ref q_reason, .ref q_orders, .ref q_ways, .ref q_sheet])), (q_town, .inr (9, [.ref q_town_houses, .ref q_town_halls, .ref q_town_posts, .ref q_town_blocks, .ref q_town_kinds, .int f_town_hour, .int f_town_day, .int f_town_prankHouse, .int f_town_bells, .int f_town_echoes, .int f_town_bellPranks])), (q_town_houses, .inr (3, [.int f_town_houses_size, .ref q_town_houses_cells, .ref q_town_houses_froms, .ref q_town_houses_tos, .ref q_town_houses_rings, .ref q_town_houses_pranks])), (q_town_houses_cells, .inl (g 0, 10, .inl a_town_houses_cells)), (q_town_halls, .inr (2, [.int f_town_halls_size, .ref q_town_halls_rows, .ref q_town_halls_firsts, .ref q_town_halls_lasts])), (q_town_halls_rows, .inl (g 0, 4, .inl a_town_halls_rows)), (q_town_halls_firsts, .inl (g 0, 4, .inl a_town_halls_firsts)), (q_town_halls_lasts, .inl (g 0, 4, .inl a_town_halls_lasts))] 3 18 := by
  refine z_ex_start (by decide) (Nat.le_of_ble_eq_true rfl) ?_
  intro p e s m args below meth c Q A X hr hE hA hno hQ
  refine z_lv (lv' := [(0, .ref q_this), (1, .int p1), (2, .int p2), (3, .int p3)]) rfl ?_
  refine z_aload_n X 0 dX11_heard_0 rfl rfl ?_
  refine z_get (q0 := 0) (k := 0) (ci := 11) X IW_P iw_X11 rfl qf_X11_X11_town (by decide) dX11_heard_1 rfl rfl ?_
  refine z_iload_n X 1 dX11_heard_4 rfl rfl ?_
  refine z_iload_n X 2 dX11_heard_5 rfl rfl ?_
  refine z_iload_n X 3 dX11_heard_6 rfl rfl ?_
  obtain ⟨o1, e2, h⟩ := bnd_p h
  refine z_rdV (rest := []) (q0 := 1) (ci := 9) X IW_P k_X9_judgeRing (c_X9_judgeRing l D g q_town q_town_houses q_town_halls q_town_posts q_town_blocks q_town_kinds q_town_houses_cells q_town_houses_froms q_town_houses_tos q_town_houses_rings q_town_houses_pranks p1 p2 p3 f_town_hour f_town_day f_town_prankHouse f_town_bells f_town_echoes f_town_bellPranks f_town_houses_size o1 e2) ql_X11_X9_judgeRing dX11_heard_7 [1, 2] rfl rfl rfl rfl rfl rfl ⟨Nat.le_of_ble_eq_true rfl, Nat.le_of_ble_eq_true rfl, rfl, rfl, Nat.le_of_ble_eq_true rfl, Nat.le_of_ble_eq_true rfl⟩ (Nat.le_of_ble_eq_true rfl) ?_
  obtain ⟨o3, e4, h⟩ := bnd_p h
  refine z_exS (rest := []) (ws' := [(q_this, .inr (11, [.ref q_town, .ref q_ahead, .ref q_kept, .int f_isKept, .ref q_past, .ref q_reason, .ref q_orders, .ref q_ways, .ref q_sheet])), (q_town, .inr (9, [.ref q_town_houses, .ref q_town_halls, .ref q_town_posts, .ref q_town_blocks, .ref q_town_kinds, .int f_town_hour, .int f_town_day, .int f_town_prankHouse, .int f_town_bells, .int f_town_echoes, .int f_town_bellPranks])), (q_town_houses, .inr (3, [.int f_town_houses_size, .ref q_town_houses_cells, .ref q_town_houses_froms, .ref q_town_houses_tos, .ref q_town_houses_rings, .ref q_town_houses_pranks])), (q_town_houses_cells, .inl (g 0, 10, .inl a_town_houses_cells)), (q_town_halls, .inr (2, [.int f_town_halls_size, .ref q_town_halls_rows, .ref q_town_halls_firsts, .ref q_town_halls_lasts])), (q_town_halls_rows, .inl (g 0, 4, .inl a_town_halls_rows)), (q_town_halls_firsts, .inl (g 0, 4, .inl a_town_halls_firsts)), (q_town_halls_lasts, .inl (g 0, 4, .inl a_town_halls_lasts))]) X hE hA k_X11_demandFine (c_X11_demandFine l hfl ak av aS D g o1 o3 e4) ql_X11_X11_demandFine dX11_heard_10 bkc_nil bk_nil rfl rfl ⟨Nat.le_of_ble_eq_true rfl, Nat.le_of_ble_eq_true rfl, rfl, rfl, Nat.le_of_ble_eq_true rfl, Nat.le_of_ble_eq_true rfl⟩ (Nat.le_of_ble_eq_true rfl) (fun x5 => ?_) (fun x5 => ?_)
  · have h := brn_t h x5
    refine z_aload_n X 0 dX11_heard_13 rfl rfl ?_
    refine z_get (q0 := 0) (k := 0) (ci := 11) X IW_P iw_X11 rfl qf_X11_X11_town (by decide) dX11_heard_14 rfl rfl ?_
    refine z_iload_n X 1 dX11_heard_17 rfl rfl ?_
    refine z_iload_n X 2 dX11_heard_18 rfl rfl ?_
    refine z_iload_n X 3 dX11_heard_19 rfl rfl ?_
    obtain ⟨o6, e7, h⟩ := bnd_p h
    refine z_rdV (rest := []) (q0 := 1) (ci := 9) X IW_P k_X9_countHearers (c_X9_countHearers l D g q_town q_town_houses q_town_halls q_town_posts q_town_blocks q_town_kinds q_town_houses_cells q_town_houses_froms q_town_houses_tos q_town_houses_rings q_town_houses_pranks q_town_halls_rows q_town_halls_firsts q_town_halls_lasts p1 p2 p3 f_town_hour f_town_day f_town_prankHouse f_town_bells f_town_echoes f_town_bellPranks f_town_houses_size a_town_houses_cells f_town_halls_size a_town_halls_rows a_town_halls_firsts a_town_halls_lasts o6 e7) ql_X11_X9_countHearers dX11_heard_20 [1, 2, 3, 4, 5, 6, 7] rfl rfl rfl rfl rfl rfl ⟨Nat.le_of_ble_eq_true rfl, Nat.le_of_ble_eq_true rfl, rfl, rfl, Nat.le_of_ble_eq_true rfl, Nat.le_of_ble_eq_true rfl⟩ (Nat.le_of_ble_eq_true rfl) ?_
    cases h
    exact z_iretX X hQ (Nat.le_of_ble_eq_true rfl) (Nat.le_of_ble_eq_true rfl) hr dX11_heard_23
  · have h := brn_f h x5
    cases h
    exact zt_out (lv := [(0, .ref q_this), (1, .int p1), (2, .int p2), (3, .int p3)]) X hno hQ x5 (Nat.le_of_ble_eq_true rfl) (Nat.le_of_ble_eq_true rfl)

def F_X11_rings (p1 : Int32) (a_town_kinds : Nat → Int32) : Option (Nat × Int32) :=
  bnd (F_X11_isWithin p1 (0 : Int32) (3 : Int32)) (fun o1 => bnd (F_X11_demandProper o1) (fun o3 => brn (o3 = 0) (bnd (F_X9_countKind p1 a_town_kinds) (fun o6 => some (0, o6))) (some (o3, (0 : Int32)))))
theorem dX11_rings_0 : decode cX11_rings 0 = .ok (.iload_n 1, 1) := by decide +kernel
theorem dX11_rings_1 : decode cX11_rings 1 = .ok (.iconst 0, 1) := by decide +kernel
theorem dX11_rings_2 : decode cX11_rings 2 = .ok (.iconst 3, 1) := by decide +kernel
theorem dX11_rings_3 : decode cX11_rings 3 = .ok (.invokestatic 120, 3) := by decide +kernel
theorem dX11_rings_6 : decode cX11_rings 6 = .ok (.invokestatic 124, 3) := by decide +kernel
theorem dX11_rings_9 : decode cX11_rings 9 = .ok (.aload_n 0, 1) := by decide +kernel
theorem dX11_rings_10 : decode cX11_rings 10 = .ok (.getfield 10, 3) := by decide +kernel
theorem dX11_rings_13 : decode cX11_rings 13 = .ok (.iload_n 1, 1) := by decide +kernel
theorem dX11_rings_14 : decode cX11_rings 14 = .ok (.invokevirtual 194, 3) := by decide +kernel
theorem dX11_rings_17 : decode cX11_rings 17 = .ok (.ireturn, 1) := by decide +kernel
theorem k_X11_rings : cardV yX11_rings (Cond.code yX11_rings cX11_rings 2 (some .int)) 1 := ⟨⟨qi_X11_rings, qv_X11_rings⟩, qc_X11_rings, qn_X11, by decide +kernel, by decide +kernel, by decide +kernel⟩
set_option maxHeartbeats 4000000 in
set_option maxRecDepth 100000 in
theorem c_X11_rings (l : Launch) (hfl : l.stackTraces = false) (ak av : Nat → Nat) (aS : Nat) (D : va_G) (g : Nat → ClassId) (q_this q_town q_ahead q_kept q_past q_reason q_orders q_ways q_sheet q_town_houses q_town_halls q_town_posts q_town_blocks q_town_kinds : Nat) (p1 : Int32) (f_isKept : Int32) (f_town_hour : Int32) (f_town_day : Int32) (f_town_prankHouse : Int32) (f_town_bells : Int32) (f_town_echoes : Int32) (f_town_bellPranks : Int32) (a_town_kinds : Nat → Int32) (o : Nat × Int32) (h : F_X11_rings p1 a_town_kinds = some o) : MX l yX11_rings (Cond.code yX11_rings cX11_rings 2 (some .int)) { frames := 8, cells := 1, slots := 6, locals := 130 } ak av aS D g [.ref q_this, .int p1] [(q_this, .inr (11, [.ref q_town, .ref q_ahead, .ref q_kept, .int f_isKept, .ref q_past, .ref q_reason, .ref q_orders, .ref q_ways, .ref q_sheet])), (q_town, .inr (9, [.ref q_town_houses, .ref q_town_halls, .ref q_town_posts, .ref q_town_blocks, .ref q_town_kinds, .int f_town_hour, .int f_town_day, .int f_town_prankHouse, .int f_town_bells, .int f_town_echoes, .int f_town_bellPranks])), (q_town_kinds, .inl (g 0, 4, .inl a_town_kinds))] o.1 (some (.int o.2)) [(q_this, .inr (11, [.ref q_town, .ref q_ahead, .ref q_kept, .int f_isKept, .ref q_past, .ref q_reason, .ref q_orders, .ref q_ways, .ref q_sheet])), (q_town, .inr (9, [.ref q_town_houses, .ref q_town_halls, .ref q_town_posts, .ref q_town_blocks, .ref q_town_kinds, .int f_town_hour, .int f_town_day, .int f_town_prankHouse, .int f_town_bells, .int f_town_echoes, .int f_town_bellPranks])), (q_town_kinds, .inl (g 0, 4, .inl a_town_kinds))] 1 6 := by
  refine z_ex_start (by decide) (Nat.le_of_ble_eq_true rfl) ?_
  intro p e s m args below meth c Q A X hr hE hA hno hQ
  refine z_lv (lv' := [(0, .ref q_this), (1, .int p1)]) rfl ?_
  refine z_iload_n X 1 dX11_rings_0 rfl rfl ?_
  refine z_iconst X (0 : Int32) dX11_rings_1 (by decide) ?_
  refine z_iconst X (3 : Int32) dX11_rings_2 (by decide) ?_
  obtain ⟨o1, e2, h⟩ := bnd_p h
  refine z_rdS (rest := []) X IW_P k_X11_isWithin (c_X11_isWithin l D g p1 (0 : Int32) (3 : Int32) o1 e2) ql_X11_X11_isWithin dX11_rings_3 [] rfl rfl rfl ⟨Nat.le_of_ble_eq_true rfl, Nat.le_of_ble_eq_true rfl, rfl, rfl, Nat.le_of_ble_eq_true rfl, Nat.le_of_ble_eq_true rfl⟩ (Nat.le_of_ble_eq_true rfl) ?_
  obtain ⟨o3, e4, h⟩ := bnd_p h
  refine z_exS (rest := []) (ws' := [(q_this, .inr (11, [.ref q_town, .ref q_ahead, .ref q_kept, .int f_isKept, .ref q_past, .ref q_reason, .ref q_orders, .ref q_ways, .ref q_sheet])), (q_town, .inr (9, [.ref q_town_houses, .ref q_town_halls, .ref q_town_posts, .ref q_town_blocks, .ref q_town_kinds, .int f_town_hour, .int f_town_day, .int f_town_prankHouse, .int f_town_bells, .int f_town_echoes, .int f_town_bellPranks])), (q_town_kinds, .inl (g 0, 4, .inl a_town_kinds))]) X hE hA k_X11_demandProper (c_X11_demandProper l hfl ak av aS D g o1 o3 e4) ql_X11_X11_demandProper dX11_rings_6 bkc_nil bk_nil rfl rfl ⟨Nat.le_of_ble_eq_true rfl, Nat.le_of_ble_eq_true rfl, rfl, rfl, Nat.le_of_ble_eq_true rfl, Nat.le_of_ble_eq_true rfl⟩ (Nat.le_of_ble_eq_true rfl) (fun x5 => ?_) (fun x5 => ?_)
  · have h := brn_t h x5
    refine z_aload_n X 0 dX11_rings_9 rfl rfl ?_
    refine z_get (q0 := 0) (k := 0) (ci := 11) X IW_P iw_X11 rfl qf_X11_X11_town (by decide) dX11_rings_10 rfl rfl ?_
    refine z_iload_n X 1 dX11_rings_13 rfl rfl ?_
    obtain ⟨o6, e7, h⟩ := bnd_p h
    refine z_rdV (rest := []) (q0 := 1) (ci := 9) X IW_P k_X9_countKind (c_X9_countKind l D g q_town q_town_houses q_town_halls q_town_posts q_town_blocks q_town_kinds p1 f_town_hour f_town_day f_town_prankHouse f_town_bells f_town_echoes f_town_bellPranks a_town_kinds o6 e7) ql_X11_X9_countKind dX11_rings_14 [1, 2] rfl rfl rfl rfl rfl rfl ⟨Nat.le_of_ble_eq_true rfl, Nat.le_of_ble_eq_true rfl, rfl, rfl, Nat.le_of_ble_eq_true rfl, Nat.le_of_ble_eq_true rfl⟩ (Nat.le_of_ble_eq_true rfl) ?_
    cases h
    exact z_iretX X hQ (Nat.le_of_ble_eq_true rfl) (Nat.le_of_ble_eq_true rfl) hr dX11_rings_17
  · have h := brn_f h x5
    cases h
    exact zt_out (lv := [(0, .ref q_this), (1, .int p1)]) X hno hQ x5 (Nat.le_of_ble_eq_true rfl) (Nat.le_of_ble_eq_true rfl)

def J_X11_postOf_59 (p1 : Int32) (p2 : Int32) (f_town_posts_size : Int32) (a_town_posts_cells : Nat → Int32) (a_town_posts_tolds : Nat → Int32) (t0 : Int32) : Option (Nat × Int32) :=
  bnd (F_X11_demandFound t0) (fun o15 => brn (o15 = 0) (bnd (F_X5_toldAt p1 a_town_posts_tolds) (fun o18 => some (0, o18))) (some (o15, (0 : Int32))))

def F_X11_postOf (p1 : Int32) (p2 : Int32) (f_town_posts_size : Int32) (a_town_posts_cells : Nat → Int32) (a_town_posts_tolds : Nat → Int32) : Option (Nat × Int32) :=
  bnd (F_X5_has p1 f_town_posts_size) (fun o1 => bnd (F_X11_demandListed o1) (fun o3 => brn (o3 = 0) (bnd (F_X11_isWithin p2 (0 : Int32) (1 : Int32)) (fun o6 => bnd (F_X11_demandProper o6) (fun o8 => brn (o8 = 0) (brn (p2 = 0) (bnd (F_X5_cellAt p1 a_town_posts_cells) (fun o11 => some (0, o11))) (bnd (F_X5_toldAt p1 a_town_posts_tolds) (fun o13 => brn (o13 = ((-1) : Int32)) (J_X11_postOf_59 p1 p2 f_town_posts_size a_town_posts_cells a_town_posts_tolds (0 : Int32)) (J_X11_postOf_59 p1 p2 f_town_posts_size a_town_posts_cells a_town_posts_tolds (1 : Int32))))) (some (o8, (0 : Int32)))))) (some (o3, (0 : Int32)))))
theorem dX11_postOf_0 : decode cX11_postOf 0 = .ok (.aload_n 0, 1) := by decide +kernel
theorem dX11_postOf_1 : decode cX11_postOf 1 = .ok (.getfield 10, 3) := by decide +kernel
theorem dX11_postOf_4 : decode cX11_postOf 4 = .ok (.getfield 200, 3) := by decide +kernel
theorem dX11_postOf_7 : decode cX11_postOf 7 = .ok (.iload_n 1, 1) := by decide +kernel
theorem dX11_postOf_8 : decode cX11_postOf 8 = .ok (.invokevirtual 208, 3) := by decide +kernel
theorem dX11_postOf_11 : decode cX11_postOf 11 = .ok (.invokestatic 87, 3) := by decide +kernel
theorem dX11_postOf_14 : decode cX11_postOf 14 = .ok (.iload_n 2, 1) := by decide +kernel
theorem dX11_postOf_15 : decode cX11_postOf 15 = .ok (.iconst 0, 1) := by decide +kernel
theorem dX11_postOf_16 : decode cX11_postOf 16 = .ok (.iconst 1, 1) := by decide +kernel
theorem dX11_postOf_17 : decode cX11_postOf 17 = .ok (.invokestatic 120, 3) := by decide +kernel
theorem dX11_postOf_20 : decode cX11_postOf 20 = .ok (.invokestatic 124, 3) := by decide +kernel
theorem dX11_postOf_23 : decode cX11_postOf 23 = .ok (.iload_n 2, 1) := by decide +kernel
theorem dX11_postOf_24 : decode cX11_postOf 24 = .ok (.ifCond .ne 15, 3) := by decide +kernel
theorem dX11_postOf_27 : decode cX11_postOf 27 = .ok (.aload_n 0, 1) := by decide +kernel
theorem dX11_postOf_28 : decode cX11_postOf 28 = .ok (.getfield 10, 3) := by decide +kernel
theorem dX11_postOf_31 : decode cX11_postOf 31 = .ok (.getfield 200, 3) := by decide +kernel
theorem dX11_postOf_34 : decode cX11_postOf 34 = .ok (.iload_n 1, 1) := by decide +kernel
theorem dX11_postOf_35 : decode cX11_postOf 35 = .ok (.invokevirtual 221, 3) := by decide +kernel
theorem dX11_postOf_38 : decode cX11_postOf 38 = .ok (.ireturn, 1) := by decide +kernel
theorem dX11_postOf_39 : decode cX11_postOf 39 = .ok (.aload_n 0, 1) := by decide +kernel
theorem dX11_postOf_40 : decode cX11_postOf 40 = .ok (.getfield 10, 3) := by decide +kernel
theorem dX11_postOf_43 : decode cX11_postOf 43 = .ok (.getfield 200, 3) := by decide +kernel
theorem dX11_postOf_46 : decode cX11_postOf 46 = .ok (.iload_n 1, 1) := by decide +kernel
theorem dX11_postOf_47 : decode cX11_postOf 47 = .ok (.invokevirtual 222, 3) := by decide +kernel
theorem dX11_postOf_50 : decode cX11_postOf 50 = .ok (.iconst (-1), 1) := by decide +kernel
theorem dX11_postOf_51 : decode cX11_postOf 51 = .ok (.if_icmp .eq 7, 3) := by decide +kernel
theorem dX11_postOf_54 : decode cX11_postOf 54 = .ok (.iconst 1, 1) := by decide +kernel
theorem dX11_postOf_55 : decode cX11_postOf 55 = .ok (.goto 4, 3) := by decide +kernel
theorem dX11_postOf_58 : decode cX11_postOf 58 = .ok (.iconst 0, 1) := by decide +kernel
theorem dX11_postOf_59 : decode cX11_postOf 59 = .ok (.invokestatic 169, 3) := by decide +kernel
theorem dX11_postOf_62 : decode cX11_postOf 62 = .ok (.aload_n 0, 1) := by decide +kernel
theorem dX11_postOf_63 : decode cX11_postOf 63 = .ok (.getfield 10, 3) := by decide +kernel
theorem dX11_postOf_66 : decode cX11_postOf 66 = .ok (.getfield 200, 3) := by decide +kernel
theorem dX11_postOf_69 : decode cX11_postOf 69 = .ok (.iload_n 1, 1) := by decide +kernel
theorem dX11_postOf_70 : decode cX11_postOf 70 = .ok (.invokevirtual 222, 3) := by decide +kernel
theorem dX11_postOf_73 : decode cX11_postOf 73 = .ok (.ireturn, 1) := by decide +kernel
theorem k_X11_postOf : cardV yX11_postOf (Cond.code yX11_postOf cX11_postOf 3 (some .int)) 2 := ⟨⟨qi_X11_postOf, qv_X11_postOf⟩, qc_X11_postOf, qn_X11, by decide +kernel, by decide +kernel, by decide +kernel⟩
set_option maxHeartbeats 4000000 in
set_option maxRecDepth 100000 in
theorem c_X11_postOf (l : Launch) (hfl : l.stackTraces = false) (ak av : Nat → Nat) (aS : Nat) (D : va_G) (g : Nat → ClassId) (q_this q_town q_ahead q_kept q_past q_reason q_orders q_ways q_sheet q_town_houses q_town_halls q_town_posts q_town_blocks q_town_kinds q_town_posts_cells q_town_posts_tolds : Nat) (p1 p2 : Int32) (f_isKept : Int32) (f_town_hour : Int32) (f_town_day : Int32) (f_town_prankHouse : Int32) (f_town_bells : Int32) (f_town_echoes : Int32) (f_town_bellPranks : Int32) (f_town_posts_size : Int32) (a_town_posts_cells : Nat → Int32) (a_town_posts_tolds : Nat → Int32) (o : Nat × Int32) (h : F_X11_postOf p1 p2 f_town_posts_size a_town_posts_cells a_town_posts_tolds = some o) : MX l yX11_postOf (Cond.code yX11_postOf cX11_postOf 3 (some .int)) { frames := 8, cells := 3, slots := 18, locals := 130 } ak av aS D g [.ref q_this, .int p1, .int p2] [(q_this, .inr (11, [.ref q_town, .ref q_ahead, .ref q_kept, .int f_isKept, .ref q_past, .ref q_reason, .ref q_orders, .ref q_ways, .ref q_sheet])), (q_town, .inr (9, [.ref q_town_houses, .ref q_town_halls, .ref q_town_posts, .ref q_town_blocks, .ref q_town_kinds, .int f_town_hour, .int f_town_day, .int f_town_prankHouse, .int f_town_bells, .int f_town_echoes, .int f_town_bellPranks])), (q_town_posts, .inr (6, [.int f_town_posts_size, .ref q_town_posts_cells, .ref q_town_posts_tolds])), (q_town_posts_cells, .inl (g 0, 4, .inl a_town_posts_cells)), (q_town_posts_tolds, .inl (g 0, 4, .inl a_town_posts_tolds))] o.1 (some (.int o.2)) [(q_this, .inr (11, [.ref q_town, .ref q_ahead, .ref q_kept, .int f_isKept, .ref q_past, .ref q_reason, .ref q_orders, .ref q_ways, .ref q_sheet])), (q_town, .inr (9, [.ref q_town_houses, .ref q_town_halls, .ref q_town_posts, .ref q_town_blocks, .ref q_town_kinds, .int f_town_hour, .int f_town_day, .int f_town_prankHouse, .int f_town_bells, .int f_town_echoes, .int f_town_bellPranks])), (q_town_posts, .inr (6, [.int f_town_posts_size, .ref q_town_posts_cells, .ref q_town_posts_tolds])), (q_town_posts_cells, .inl (g 0, 4, .inl a_town_posts_cells)), (q_town_posts_tolds, .inl (g 0, 4, .inl a_town_posts_tolds))] 3 18 := by
  refine z_ex_start (by decide) (Nat.le_of_ble_eq_true rfl) ?_
  intro p e s m args below meth c Q A X hr hE hA hno hQ
  refine z_lv (lv' := [(0, .ref q_this), (1, .int p1), (2, .int p2)]) rfl ?_
  have H59 : ∀ (t0 : Int32), J_X11_postOf_59 p1 p2 f_town_posts_size a_town_posts_cells a_town_posts_tolds t0 = some o → Z p l e { frames := 8, cells := 3, slots := 18, locals := 130 } s m args below meth c Q 3 2 12 (IW D A s [(q_this, .inr (11, [.ref q_town, .ref q_ahead, .ref q_kept, .int f_isKept, .ref q_past, .ref q_reason, .ref q_orders, .ref q_ways, .ref q_sheet])), (q_town, .inr (9, [.ref q_town_houses, .ref q_town_halls, .ref q_town_posts, .ref q_town_blocks, .ref q_town_kinds, .int f_town_hour, .int f_town_day, .int f_town_prankHouse, .int f_town_bells, .int f_town_echoes, .int f_town_bellPranks])), (q_town_posts, .inr (6, [.int f_town_posts_size, .ref q_town_posts_cells, .ref q_town_posts_tolds])), (q_town_posts_cells, .inl (g 0, 4, .inl a_town_posts_cells)), (q_town_posts_tolds, .inl (g 0, 4, .inl a_town_posts_tolds))]) 59 [(0, .ref q_this), (1, .int p1)] [.int t0] := by
    intro t0 h
    obtain ⟨o15, e16, h⟩ := bnd_p h
    refine z_exS (rest := []) (ws' := [(q_this, .inr (11, [.ref q_town, .ref q_ahead, .ref q_kept, .int f_isKept, .ref q_past, .ref q_reason, .ref q_orders, .ref q_ways, .ref q_sheet])), (q_town, .inr (9, [.ref q_town_houses, .ref q_town_halls, .ref q_town_posts, .ref q_town_blocks, .ref q_town_kinds, .int f_town_hour, .int f_town_day, .int f_town_prankHouse, .int f_town_bells, .int f_town_echoes, .int f_town_bellPranks])), (q_town_posts, .inr (6, [.int f_town_posts_size, .ref q_town_posts_cells, .ref q_town_posts_tolds])), (q_town_posts_cells, .inl (g 0, 4, .inl a_town_posts_cells)), (q_town_posts_tolds, .inl (g 0, 4, .inl a_town_posts_tolds))]) X hE hA k_X11_demandFound (c_X11_demandFound l hfl ak av aS D g t0 o15 e16) ql_X11_X11_demandFound dX11_postOf_59 bkc_nil bk_nil rfl rfl ⟨Nat.le_of_ble_eq_true rfl, Nat.le_of_ble_eq_true rfl, rfl, rfl, Nat.le_of_ble_eq_true rfl, Nat.le_of_ble_eq_true rfl⟩ (Nat.le_of_ble_eq_true rfl) (fun x17 => ?_) (fun x17 => ?_)
    · have h := brn_t h x17
      refine z_aload_n X 0 dX11_postOf_62 rfl rfl ?_
      refine z_get (q0 := 0) (k := 0) (ci := 11) X IW_P iw_X11 rfl qf_X11_X11_town (by decide) dX11_postOf_63 rfl rfl ?_
      refine z_getN (q0 := 1) (k := 2) (ci := 9) X IW_P iw_X9 rfl qfN_X11_X9_posts (by decide) dX11_postOf_66 rfl rfl ?_
      refine z_iload_n X 1 dX11_postOf_69 rfl rfl ?_
      obtain ⟨o18, e19, h⟩ := bnd_p h
      refine z_rdV (rest := []) (q0 := 2) (ci := 6) X IW_P k_X5_toldAt (c_X5_toldAt l D g q_town_posts q_town_posts_cells q_town_posts_tolds p1 f_town_posts_size a_town_posts_tolds o18 e19) ql_X11_X5_toldAt dX11_postOf_70 [2, 4] rfl rfl rfl rfl rfl rfl ⟨Nat.le_of_ble_eq_true rfl, Nat.le_of_ble_eq_true rfl, rfl, rfl, Nat.le_of_ble_eq_true rfl, Nat.le_of_ble_eq_true rfl⟩ (Nat.le_of_ble_eq_true rfl) ?_
      cases h
      exact z_iretX X hQ (Nat.le_of_ble_eq_true rfl) (Nat.le_of_ble_eq_true rfl) hr dX11_postOf_73
    · have h := brn_f h x17
      cases h
      exact zt_out (lv := [(0, .ref q_this), (1, .int p1)]) X hno hQ x17 (Nat.le_of_ble_eq_true rfl) (Nat.le_of_ble_eq_true rfl)
  refine z_aload_n X 0 dX11_postOf_0 rfl rfl ?_
  refine z_get (q0 := 0) (k := 0) (ci := 11) X IW_P iw_X11 rfl qf_X11_X11_town (by decide) dX11_postOf_1 rfl rfl ?_
  refine z_getN (q0 := 1) (k := 2) (ci := 9) X IW_P iw_X9 rfl qfN_X11_X9_posts (by decide) dX11_postOf_4 rfl rfl ?_
  refine z_iload_n X 1 dX11_postOf_7 rfl rfl ?_
  obtain ⟨o1, e2, h⟩ := bnd_p h
  refine z_rdV (rest := []) (q0 := 2) (ci := 6) X IW_P k_X5_has (c_X5_has l D g q_town_posts q_town_posts_cells q_town_posts_tolds p1 f_town_posts_size o1 e2) ql_X11_X5_has dX11_postOf_8 [2] rfl rfl rfl rfl rfl rfl ⟨Nat.le_of_ble_eq_true rfl, Nat.le_of_ble_eq_true rfl, rfl, rfl, Nat.le_of_ble_eq_true rfl, Nat.le_of_ble_eq_true rfl⟩ (Nat.le_of_ble_eq_true rfl) ?_
  obtain ⟨o3, e4, h⟩ := bnd_p h
  refine z_exS (rest := []) (ws' := [(q_this, .inr (11, [.ref q_town, .ref q_ahead, .ref q_kept, .int f_isKept, .ref q_past, .ref q_reason, .ref q_orders, .ref q_ways, .ref q_sheet])), (q_town, .inr (9, [.ref q_town_houses, .ref q_town_halls, .ref q_town_posts, .ref q_town_blocks, .ref q_town_kinds, .int f_town_hour, .int f_town_day, .int f_town_prankHouse, .int f_town_bells, .int f_town_echoes, .int f_town_bellPranks])), (q_town_posts, .inr (6, [.int f_town_posts_size, .ref q_town_posts_cells, .ref q_town_posts_tolds])), (q_town_posts_cells, .inl (g 0, 4, .inl a_town_posts_cells)), (q_town_posts_tolds, .inl (g 0, 4, .inl a_town_posts_tolds))]) X hE hA k_X11_demandListed (c_X11_demandListed l hfl ak av aS D g o1 o3 e4) ql_X11_X11_demandListed dX11_postOf_11 bkc_nil bk_nil rfl rfl ⟨Nat.le_of_ble_eq_true rfl, Nat.le_of_ble_eq_true rfl, rfl, rfl, Nat.le_of_ble_eq_true rfl, Nat.le_of_ble_eq_true rfl⟩ (Nat.le_of_ble_eq_true rfl) (fun x5 => ?_) (fun x5 => ?_)
  · have h := brn_t h x5
    refine z_iload_n X 2 dX11_postOf_14 rfl rfl ?_
    refine z_iconst X (0 : Int32) dX11_postOf_15 (by decide) ?_
    refine z_iconst X (1 : Int32) dX11_postOf_16 (by decide) ?_
    obtain ⟨o6, e7, h⟩ := bnd_p h
    refine z_rdS (rest := []) X IW_P k_X11_isWithin (c_X11_isWithin l D g p2 (0 : Int32) (1 : Int32) o6 e7) ql_X11_X11_isWithin dX11_postOf_17 [] rfl rfl rfl ⟨Nat.le_of_ble_eq_true rfl, Nat.le_of_ble_eq_true rfl, rfl, rfl, Nat.le_of_ble_eq_true rfl, Nat.le_of_ble_eq_true rfl⟩ (Nat.le_of_ble_eq_true rfl) ?_
    obtain ⟨o8, e9, h⟩ := bnd_p h
    refine z_exS (rest := []) (ws' := [(q_this, .inr (11, [.ref q_town, .ref q_ahead, .ref q_kept, .int f_isKept, .ref q_past, .ref q_reason, .ref q_orders, .ref q_ways, .ref q_sheet])), (q_town, .inr (9, [.ref q_town_houses, .ref q_town_halls, .ref q_town_posts, .ref q_town_blocks, .ref q_town_kinds, .int f_town_hour, .int f_town_day, .int f_town_prankHouse, .int f_town_bells, .int f_town_echoes, .int f_town_bellPranks])), (q_town_posts, .inr (6, [.int f_town_posts_size, .ref q_town_posts_cells, .ref q_town_posts_tolds])), (q_town_posts_cells, .inl (g 0, 4, .inl a_town_posts_cells)), (q_town_posts_tolds, .inl (g 0, 4, .inl a_town_posts_tolds))]) X hE hA k_X11_demandProper (c_X11_demandProper l hfl ak av aS D g o6 o8 e9) ql_X11_X11_demandProper dX11_postOf_20 bkc_nil bk_nil rfl rfl ⟨Nat.le_of_ble_eq_true rfl, Nat.le_of_ble_eq_true rfl, rfl, rfl, Nat.le_of_ble_eq_true rfl, Nat.le_of_ble_eq_true rfl⟩ (Nat.le_of_ble_eq_true rfl) (fun x10 => ?_) (fun x10 => ?_)
    · have h := brn_t h x10
      refine z_iload_n X 2 dX11_postOf_23 rfl rfl ?_
      refine z_if_ne X 39 dX11_postOf_24 (by decide) h (fun _ h => ?_) (fun _ h => ?_)
      · refine z_aload_n X 0 dX11_postOf_27 rfl rfl ?_
        refine z_get (q0 := 0) (k := 0) (ci := 11) X IW_P iw_X11 rfl qf_X11_X11_town (by decide) dX11_postOf_28 rfl rfl ?_
        refine z_getN (q0 := 1) (k := 2) (ci := 9) X IW_P iw_X9 rfl qfN_X11_X9_posts (by decide) dX11_postOf_31 rfl rfl ?_
        refine z_iload_n X 1 dX11_postOf_34 rfl rfl ?_
        obtain ⟨o11, e12, h⟩ := bnd_p h
        refine z_rdV (rest := []) (q0 := 2) (ci := 6) X IW_P k_X5_cellAt (c_X5_cellAt l D g q_town_posts q_town_posts_cells q_town_posts_tolds p1 f_town_posts_size a_town_posts_cells o11 e12) ql_X11_X5_cellAt dX11_postOf_35 [2, 3] rfl rfl rfl rfl rfl rfl ⟨Nat.le_of_ble_eq_true rfl, Nat.le_of_ble_eq_true rfl, rfl, rfl, Nat.le_of_ble_eq_true rfl, Nat.le_of_ble_eq_true rfl⟩ (Nat.le_of_ble_eq_true rfl) ?_
        cases h
        exact z_iretX X hQ (Nat.le_of_ble_eq_true rfl) (Nat.le_of_ble_eq_true rfl) hr dX11_postOf_38
      · refine z_aload_n X 0 dX11_postOf_39 rfl rfl ?_
        refine z_get (q0 := 0) (k := 0) (ci := 11) X IW_P iw_X11 rfl qf_X11_X11_town (by decide) dX11_postOf_40 rfl rfl ?_
        refine z_getN (q0 := 1) (k := 2) (ci := 9) X IW_P iw_X9 rfl qfN_X11_X9_posts (by decide) dX11_postOf_43 rfl rfl ?_
        refine z_iload_n X 1 dX11_postOf_46 rfl rfl ?_
        obtain ⟨o13, e14, h⟩ := bnd_p h
        refine z_rdV (rest := []) (q0 := 2) (ci := 6) X IW_P k_X5_toldAt (c_X5_toldAt l D g q_town_posts q_town_posts_cells q_town_posts_tolds p1 f_town_posts_size a_town_posts_tolds o13 e14) ql_X11_X5_toldAt dX11_postOf_47 [2, 4] rfl rfl rfl rfl rfl rfl ⟨Nat.le_of_ble_eq_true rfl, Nat.le_of_ble_eq_true rfl, rfl, rfl, Nat.le_of_ble_eq_true rfl, Nat.le_of_ble_eq_true rfl⟩ (Nat.le_of_ble_eq_true rfl) ?_
        refine z_iconst X ((-1) : Int32) dX11_postOf_50 (by decide) ?_
        refine z_icmp_eq X 58 dX11_postOf_51 (by decide) h (fun _ h => ?_) (fun _ h => ?_)
        · refine z_iconst X (0 : Int32) dX11_postOf_58 (by decide) ?_
          refine z_widen (k := 2) (n := 12) (Nat.le_of_ble_eq_true rfl) (Nat.le_of_ble_eq_true rfl) ?_
          refine z_sub (lv' := [(0, .ref q_this), (1, .int p1)]) [0, 1] rfl ?_
          exact H59 (0 : Int32) h
        · refine z_iconst X (1 : Int32) dX11_postOf_54 (by decide) ?_
          refine z_goto X 59 dX11_postOf_55 (by decide) ?_
          refine z_widen (k := 2) (n := 12) (Nat.le_of_ble_eq_true rfl) (Nat.le_of_ble_eq_true rfl) ?_
          refine z_sub (lv' := [(0, .ref q_this), (1, .int p1)]) [0, 1] rfl ?_
          exact H59 (1 : Int32) h
    · have h := brn_f h x10
      cases h
      exact zt_out (lv := [(0, .ref q_this), (1, .int p1), (2, .int p2)]) X hno hQ x10 (Nat.le_of_ble_eq_true rfl) (Nat.le_of_ble_eq_true rfl)
  · have h := brn_f h x5
    cases h
    exact zt_out (lv := [(0, .ref q_this), (1, .int p1), (2, .int p2)]) X hno hQ x5 (Nat.le_of_ble_eq_true rfl) (Nat.le_of_ble_eq_true rfl)

def F_X11_fits (p1 : Int32) (f_town_prankHouse : Int32) (f_town_posts_size : Int32) (a_town_posts_cells : Nat → Int32) (a_town_posts_tolds : Nat → Int32) (a_town_blocks : Nat → Int32) : Option (Nat × Int32) :=
  bnd (F_X0_isCell p1) (fun o1 => bnd (F_X11_demandProper o1) (fun o3 => brn (o3 = 0) (bnd (F_X9_hasPrank f_town_prankHouse) (fun o6 => bnd (F_X11_demandFound o6) (fun o8 => brn (o8 = 0) (bnd (F_X9_canBeFrom p1 f_town_posts_size a_town_posts_cells a_town_posts_tolds a_town_blocks) (fun o11 => grd (o11 = 0 ∨ o11 = 1) (some (0, o11)))) (some (o8, (0 : Int32)))))) (some (o3, (0 : Int32)))))
theorem dX11_fits_0 : decode cX11_fits 0 = .ok (.iload_n 1, 1) := by decide +kernel
theorem dX11_fits_1 : decode cX11_fits 1 = .ok (.invokestatic 225, 3) := by decide +kernel
theorem dX11_fits_4 : decode cX11_fits 4 = .ok (.invokestatic 124, 3) := by decide +kernel
theorem dX11_fits_7 : decode cX11_fits 7 = .ok (.aload_n 0, 1) := by decide +kernel
theorem dX11_fits_8 : decode cX11_fits 8 = .ok (.getfield 10, 3) := by decide +kernel
theorem dX11_fits_11 : decode cX11_fits 11 = .ok (.invokevirtual 230, 3) := by decide +kernel
theorem dX11_fits_14 : decode cX11_fits 14 = .ok (.invokestatic 169, 3) := by decide +kernel
theorem dX11_fits_17 : decode cX11_fits 17 = .ok (.aload_n 0, 1) := by decide +kernel
theorem dX11_fits_18 : decode cX11_fits 18 = .ok (.getfield 10, 3) := by decide +kernel
theorem dX11_fits_21 : decode cX11_fits 21 = .ok (.iload_n 1, 1) := by decide +kernel
theorem dX11_fits_22 : decode cX11_fits 22 = .ok (.invokevirtual 234, 3) := by decide +kernel
theorem dX11_fits_25 : decode cX11_fits 25 = .ok (.ireturn, 1) := by decide +kernel
theorem k_X11_fits : cardV yX11_fits (Cond.code yX11_fits cX11_fits 2 (some .boolean)) 1 := ⟨⟨qi_X11_fits, qv_X11_fits⟩, qc_X11_fits, qn_X11, by decide +kernel, by decide +kernel, by decide +kernel⟩
set_option maxHeartbeats 4000000 in
set_option maxRecDepth 100000 in
theorem c_X11_fits (l : Launch) (hfl : l.stackTraces = false) (ak av : Nat → Nat) (aS : Nat) (D : va_G) (g : Nat → ClassId) (q_this q_town q_ahead q_kept q_past q_reason q_orders q_ways q_sheet q_town_houses q_town_halls q_town_posts q_town_blocks q_town_kinds q_town_posts_cells q_town_posts_tolds : Nat) (p1 : Int32) (f_isKept : Int32) (f_town_hour : Int32) (f_town_day : Int32) (f_town_prankHouse : Int32) (f_town_bells : Int32) (f_town_echoes : Int32) (f_town_bellPranks : Int32) (f_town_posts_size : Int32) (a_town_posts_cells : Nat → Int32) (a_town_posts_tolds : Nat → Int32) (a_town_blocks : Nat → Int32) (o : Nat × Int32) (h : F_X11_fits p1 f_town_prankHouse f_town_posts_size a_town_posts_cells a_town_posts_tolds a_town_blocks = some o) : MX l yX11_fits (Cond.code yX11_fits cX11_fits 2 (some .boolean)) { frames := 8, cells := 2, slots := 12, locals := 130 } ak av aS D g [.ref q_this, .int p1] [(q_this, .inr (11, [.ref q_town, .ref q_ahead, .ref q_kept, .int f_isKept, .ref q_past, .ref q_reason, .ref q_orders, .ref q_ways, .ref q_sheet])), (q_town, .inr (9, [.ref q_town_houses, .ref q_town_halls, .ref q_town_posts, .ref q_town_blocks, .ref q_town_kinds, .int f_town_hour, .int f_town_day, .int f_town_prankHouse, .int f_town_bells, .int f_town_echoes, .int f_town_bellPranks])), (q_town_posts, .inr (6, [.int f_town_posts_size, .ref q_town_posts_cells, .ref q_town_posts_tolds])), (q_town_posts_cells, .inl (g 0, 4, .inl a_town_posts_cells)), (q_town_posts_tolds, .inl (g 0, 4, .inl a_town_posts_tolds)), (q_town_blocks, .inl (g 0, 64, .inl a_town_blocks))] o.1 (some (.int o.2)) [(q_this, .inr (11, [.ref q_town, .ref q_ahead, .ref q_kept, .int f_isKept, .ref q_past, .ref q_reason, .ref q_orders, .ref q_ways, .ref q_sheet])), (q_town, .inr (9, [.ref q_town_houses, .ref q_town_halls, .ref q_town_posts, .ref q_town_blocks, .ref q_town_kinds, .int f_town_hour, .int f_town_day, .int f_town_prankHouse, .int f_town_bells, .int f_town_echoes, .int f_town_bellPranks])), (q_town_posts, .inr (6, [.int f_town_posts_size, .ref q_town_posts_cells, .ref q_town_posts_tolds])), (q_town_posts_cells, .inl (g 0, 4, .inl a_town_posts_cells)), (q_town_posts_tolds, .inl (g 0, 4, .inl a_town_posts_tolds)), (q_town_blocks, .inl (g 0, 64, .inl a_town_blocks))] 2 12 := by
  refine z_ex_start (by decide) (Nat.le_of_ble_eq_true rfl) ?_
  intro p e s m args below meth c Q A X hr hE hA hno hQ
  refine z_lv (lv' := [(0, .ref q_this), (1, .int p1)]) rfl ?_
  refine z_iload_n X 1 dX11_fits_0 rfl rfl ?_
  obtain ⟨o1, e2, h⟩ := bnd_p h
  refine z_rdS (rest := []) X IW_P k_X0_isCell (c_X0_isCell l D g p1 o1 e2) ql_X11_X0_isCell dX11_fits_1 [] rfl rfl rfl ⟨Nat.le_of_ble_eq_true rfl, Nat.le_of_ble_eq_true rfl, rfl, rfl, Nat.le_of_ble_eq_true rfl, Nat.le_of_ble_eq_true rfl⟩ (Nat.le_of_ble_eq_true rfl) ?_
  obtain ⟨o3, e4, h⟩ := bnd_p h
  refine z_exS (rest := []) (ws' := [(q_this, .inr (11, [.ref q_town, .ref q_ahead, .ref q_kept, .int f_isKept, .ref q_past, .ref q_reason, .ref q_orders, .ref q_ways, .ref q_sheet])), (q_town, .inr (9, [.ref q_town_houses, .ref q_town_halls, .ref q_town_posts, .ref q_town_blocks, .ref q_town_kinds, .int f_town_hour, .int f_town_day, .int f_town_prankHouse, .int f_town_bells, .int f_town_echoes, .int f_town_bellPranks])), (q_town_posts, .inr (6, [.int f_town_posts_size, .ref q_town_posts_cells, .ref q_town_posts_tolds])), (q_town_posts_cells, .inl (g 0, 4, .inl a_town_posts_cells)), (q_town_posts_tolds, .inl (g 0, 4, .inl a_town_posts_tolds)), (q_town_blocks, .inl (g 0, 64, .inl a_town_blocks))]) X hE hA k_X11_demandProper (c_X11_demandProper l hfl ak av aS D g o1 o3 e4) ql_X11_X11_demandProper dX11_fits_4 bkc_nil bk_nil rfl rfl ⟨Nat.le_of_ble_eq_true rfl, Nat.le_of_ble_eq_true rfl, rfl, rfl, Nat.le_of_ble_eq_true rfl, Nat.le_of_ble_eq_true rfl⟩ (Nat.le_of_ble_eq_true rfl) (fun x5 => ?_) (fun x5 => ?_)
  · have h := brn_t h x5
    refine z_aload_n X 0 dX11_fits_7 rfl rfl ?_
    refine z_get (q0 := 0) (k := 0) (ci := 11) X IW_P iw_X11 rfl qf_X11_X11_town (by decide) dX11_fits_8 rfl rfl ?_
    obtain ⟨o6, e7, h⟩ := bnd_p h
    refine z_rdV (rest := []) (q0 := 1) (ci := 9) X IW_P k_X9_hasPrank (c_X9_hasPrank l D g q_town q_town_houses q_town_halls q_town_posts q_town_blocks q_town_kinds f_town_hour f_town_day f_town_prankHouse f_town_bells f_town_echoes f_town_bellPranks o6 e7) ql_X11_X9_hasPrank dX11_fits_11 [1] rfl rfl rfl rfl rfl rfl ⟨Nat.le_of_ble_eq_true rfl, Nat.le_of_ble_eq_true rfl, rfl, rfl, Nat.le_of_ble_eq_true rfl, Nat.le_of_ble_eq_true rfl⟩ (Nat.le_of_ble_eq_true rfl) ?_
    obtain ⟨o8, e9, h⟩ := bnd_p h
    refine z_exS (rest := []) (ws' := [(q_this, .inr (11, [.ref q_town, .ref q_ahead, .ref q_kept, .int f_isKept, .ref q_past, .ref q_reason, .ref q_orders, .ref q_ways, .ref q_sheet])), (q_town, .inr (9, [.ref q_town_houses, .ref q_town_halls, .ref q_town_posts, .ref q_town_blocks, .ref q_town_kinds, .int f_town_hour, .int f_town_day, .int f_town_prankHouse, .int f_town_bells, .int f_town_echoes, .int f_town_bellPranks])), (q_town_posts, .inr (6, [.int f_town_posts_size, .ref q_town_posts_cells, .ref q_town_posts_tolds])), (q_town_posts_cells, .inl (g 0, 4, .inl a_town_posts_cells)), (q_town_posts_tolds, .inl (g 0, 4, .inl a_town_posts_tolds)), (q_town_blocks, .inl (g 0, 64, .inl a_town_blocks))]) X hE hA k_X11_demandFound (c_X11_demandFound l hfl ak av aS D g o6 o8 e9) ql_X11_X11_demandFound dX11_fits_14 bkc_nil bk_nil rfl rfl ⟨Nat.le_of_ble_eq_true rfl, Nat.le_of_ble_eq_true rfl, rfl, rfl, Nat.le_of_ble_eq_true rfl, Nat.le_of_ble_eq_true rfl⟩ (Nat.le_of_ble_eq_true rfl) (fun x10 => ?_) (fun x10 => ?_)
    · have h := brn_t h x10
      refine z_aload_n X 0 dX11_fits_17 rfl rfl ?_
      refine z_get (q0 := 0) (k := 0) (ci := 11) X IW_P iw_X11 rfl qf_X11_X11_town (by decide) dX11_fits_18 rfl rfl ?_
      refine z_iload_n X 1 dX11_fits_21 rfl rfl ?_
      obtain ⟨o11, e12, h⟩ := bnd_p h
      refine z_rdV (rest := []) (q0 := 1) (ci := 9) X IW_P k_X9_canBeFrom (c_X9_canBeFrom l D g q_town q_town_houses q_town_halls q_town_posts q_town_blocks q_town_kinds q_town_posts_cells q_town_posts_tolds p1 f_town_hour f_town_day f_town_prankHouse f_town_bells f_town_echoes f_town_bellPranks f_town_posts_size a_town_posts_cells a_town_posts_tolds a_town_blocks o11 e12) ql_X11_X9_canBeFrom dX11_fits_22 [1, 2, 3, 4, 5] rfl rfl rfl rfl rfl rfl ⟨Nat.le_of_ble_eq_true rfl, Nat.le_of_ble_eq_true rfl, rfl, rfl, Nat.le_of_ble_eq_true rfl, Nat.le_of_ble_eq_true rfl⟩ (Nat.le_of_ble_eq_true rfl) ?_
      obtain ⟨e13, h⟩ := grd_p h
      cases h
      exact z_zretX X hQ (Nat.le_of_ble_eq_true rfl) (Nat.le_of_ble_eq_true rfl) hr dX11_fits_25 (nar_bool e13)
    · have h := brn_f h x10
      cases h
      exact zt_out (lv := [(0, .ref q_this), (1, .int p1)]) X hno hQ x10 (Nat.le_of_ble_eq_true rfl) (Nat.le_of_ble_eq_true rfl)
  · have h := brn_f h x5
    cases h
    exact zt_out (lv := [(0, .ref q_this), (1, .int p1)]) X hno hQ x5 (Nat.le_of_ble_eq_true rfl) (Nat.le_of_ble_eq_true rfl)

def F_X11_fitting (p1 : Int32) (f_town_prankHouse : Int32) (f_town_posts_size : Int32) (a_town_posts_cells : Nat → Int32) (a_town_posts_tolds : Nat → Int32) (a_town_blocks : Nat → Int32) : Option (Nat × Int32) :=
  bnd (F_X9_hasPrank f_town_prankHouse) (fun o1 => bnd (F_X11_demandFound o1) (fun o3 => brn (o3 = 0) (brn (p1 = 0) (bnd (F_X9_countFits f_town_posts_size a_town_posts_cells a_town_posts_tolds a_town_blocks) (fun o6 => some (0, o6))) (bnd (F_X9_countFitsAround f_town_posts_size a_town_posts_cells a_town_posts_tolds a_town_blocks) (fun o8 => some (0, o8)))) (some (o3, (0 : Int32)))))
theorem dX11_fitting_0 : decode cX11_fitting 0 = .ok (.aload_n 0, 1) := by decide +kernel
theorem dX11_fitting_1 : decode cX11_fitting 1 = .ok (.getfield 10, 3) := by decide +kernel
theorem dX11_fitting_4 : decode cX11_fitting 4 = .ok (.invokevirtual 230, 3) := by decide +kernel
theorem dX11_fitting_7 : decode cX11_fitting 7 = .ok (.invokestatic 169, 3) := by decide +kernel
theorem dX11_fitting_10 : decode cX11_fitting 10 = .ok (.iload_n 1, 1) := by decide +kernel
theorem dX11_fitting_11 : decode cX11_fitting 11 = .ok (.ifCond .eq 13, 3) := by decide +kernel
theorem dX11_fitting_14 : decode cX11_fitting 14 = .ok (.aload_n 0, 1) := by decide +kernel
theorem dX11_fitting_15 : decode cX11_fitting 15 = .ok (.getfield 10, 3) := by decide +kernel
theorem dX11_fitting_18 : decode cX11_fitting 18 = .ok (.invokevirtual 237, 3) := by decide +kernel
theorem dX11_fitting_21 : decode cX11_fitting 21 = .ok (.goto 10, 3) := by decide +kernel
theorem dX11_fitting_24 : decode cX11_fitting 24 = .ok (.aload_n 0, 1) := by decide +kernel
theorem dX11_fitting_25 : decode cX11_fitting 25 = .ok (.getfield 10, 3) := by decide +kernel
theorem dX11_fitting_28 : decode cX11_fitting 28 = .ok (.invokevirtual 218, 3) := by decide +kernel
theorem dX11_fitting_31 : decode cX11_fitting 31 = .ok (.ireturn, 1) := by decide +kernel
theorem k_X11_fitting : cardV yX11_fitting (Cond.code yX11_fitting cX11_fitting 2 (some .int)) 1 := ⟨⟨qi_X11_fitting, qv_X11_fitting⟩, qc_X11_fitting, qn_X11, by decide +kernel, by decide +kernel, by decide +kernel⟩
set_option maxHeartbeats 4000000 in
set_option maxRecDepth 100000 in
theorem c_X11_fitting (l : Launch) (hfl : l.stackTraces = false) (ak av : Nat → Nat) (aS : Nat) (D : va_G) (g : Nat → ClassId) (q_this q_town q_ahead q_kept q_past q_reason q_orders q_ways q_sheet q_town_houses q_town_halls q_town_posts q_town_blocks q_town_kinds q_town_posts_cells q_town_posts_tolds : Nat) (p1 : Int32) (f_isKept : Int32) (f_town_hour : Int32) (f_town_day : Int32) (f_town_prankHouse : Int32) (f_town_bells : Int32) (f_town_echoes : Int32) (f_town_bellPranks : Int32) (f_town_posts_size : Int32) (a_town_posts_cells : Nat → Int32) (a_town_posts_tolds : Nat → Int32) (a_town_blocks : Nat → Int32) (o : Nat × Int32) (h : F_X11_fitting p1 f_town_prankHouse f_town_posts_size a_town_posts_cells a_town_posts_tolds a_town_blocks = some o) : MX l yX11_fitting (Cond.code yX11_fitting cX11_fitting 2 (some .int)) { frames := 8, cells := 1, slots := 6, locals := 152 } ak av aS D g [.ref q_this, .int p1] [(q_this, .inr (11, [.ref q_town, .ref q_ahead, .ref q_kept, .int f_isKept, .ref q_past, .ref q_reason, .ref q_orders, .ref q_ways, .ref q_sheet])), (q_town, .inr (9, [.ref q_town_houses, .ref q_town_halls, .ref q_town_posts, .ref q_town_blocks, .ref q_town_kinds, .int f_town_hour, .int f_town_day, .int f_town_prankHouse, .int f_town_bells, .int f_town_echoes, .int f_town_bellPranks])), (q_town_posts, .inr (6, [.int f_town_posts_size, .ref q_town_posts_cells, .ref q_town_posts_tolds])), (q_town_posts_cells, .inl (g 0, 4, .inl a_town_posts_cells)), (q_town_posts_tolds, .inl (g 0, 4, .inl a_town_posts_tolds)), (q_town_blocks, .inl (g 0, 64, .inl a_town_blocks))] o.1 (some (.int o.2)) [(q_this, .inr (11, [.ref q_town, .ref q_ahead, .ref q_kept, .int f_isKept, .ref q_past, .ref q_reason, .ref q_orders, .ref q_ways, .ref q_sheet])), (q_town, .inr (9, [.ref q_town_houses, .ref q_town_halls, .ref q_town_posts, .ref q_town_blocks, .ref q_town_kinds, .int f_town_hour, .int f_town_day, .int f_town_prankHouse, .int f_town_bells, .int f_town_echoes, .int f_town_bellPranks])), (q_town_posts, .inr (6, [.int f_town_posts_size, .ref q_town_posts_cells, .ref q_town_posts_tolds])), (q_town_posts_cells, .inl (g 0, 4, .inl a_town_posts_cells)), (q_town_posts_tolds, .inl (g 0, 4, .inl a_town_posts_tolds)), (q_town_blocks, .inl (g 0, 64, .inl a_town_blocks))] 1 6 := by
  refine z_ex_start (by decide) (Nat.le_of_ble_eq_true rfl) ?_
  intro p e s m args below meth c Q A X hr hE hA hno hQ
  refine z_lv (lv' := [(0, .ref q_this), (1, .int p1)]) rfl ?_
  refine z_aload_n X 0 dX11_fitting_0 rfl rfl ?_
  refine z_get (q0 := 0) (k := 0) (ci := 11) X IW_P iw_X11 rfl qf_X11_X11_town (by decide) dX11_fitting_1 rfl rfl ?_
  obtain ⟨o1, e2, h⟩ := bnd_p h
  refine z_rdV (rest := []) (q0 := 1) (ci := 9) X IW_P k_X9_hasPrank (c_X9_hasPrank l D g q_town q_town_houses q_town_halls q_town_posts q_town_blocks q_town_kinds f_town_hour f_town_day f_town_prankHouse f_town_bells f_town_echoes f_town_bellPranks o1 e2) ql_X11_X9_hasPrank dX11_fitting_4 [1] rfl rfl rfl rfl rfl rfl ⟨Nat.le_of_ble_eq_true rfl, Nat.le_of_ble_eq_true rfl, rfl, rfl, Nat.le_of_ble_eq_true rfl, Nat.le_of_ble_eq_true rfl⟩ (Nat.le_of_ble_eq_true rfl) ?_
  obtain ⟨o3, e4, h⟩ := bnd_p h
  refine z_exS (rest := []) (ws' := [(q_this, .inr (11, [.ref q_town, .ref q_ahead, .ref q_kept, .int f_isKept, .ref q_past, .ref q_reason, .ref q_orders, .ref q_ways, .ref q_sheet])), (q_town, .inr (9, [.ref q_town_houses, .ref q_town_halls, .ref q_town_posts, .ref q_town_blocks, .ref q_town_kinds, .int f_town_hour, .int f_town_day, .int f_town_prankHouse, .int f_town_bells, .int f_town_echoes, .int f_town_bellPranks])), (q_town_posts, .inr (6, [.int f_town_posts_size, .ref q_town_posts_cells, .ref q_town_posts_tolds])), (q_town_posts_cells, .inl (g 0, 4, .inl a_town_posts_cells)), (q_town_posts_tolds, .inl (g 0, 4, .inl a_town_posts_tolds)), (q_town_blocks, .inl (g 0, 64, .inl a_town_blocks))]) X hE hA k_X11_demandFound (c_X11_demandFound l hfl ak av aS D g o1 o3 e4) ql_X11_X11_demandFound dX11_fitting_7 bkc_nil bk_nil rfl rfl ⟨Nat.le_of_ble_eq_true rfl, Nat.le_of_ble_eq_true rfl, rfl, rfl, Nat.le_of_ble_eq_true rfl, Nat.le_of_ble_eq_true rfl⟩ (Nat.le_of_ble_eq_true rfl) (fun x5 => ?_) (fun x5 => ?_)
  · have h := brn_t h x5
    refine z_iload_n X 1 dX11_fitting_10 rfl rfl ?_
    refine z_if_eq X 24 dX11_fitting_11 (by decide) h (fun _ h => ?_) (fun _ h => ?_)
    · refine z_aload_n X 0 dX11_fitting_24 rfl rfl ?_
      refine z_get (q0 := 0) (k := 0) (ci := 11) X IW_P iw_X11 rfl qf_X11_X11_town (by decide) dX11_fitting_25 rfl rfl ?_
      obtain ⟨o6, e7, h⟩ := bnd_p h
      refine z_rdV (rest := []) (q0 := 1) (ci := 9) X IW_P k_X9_countFits (c_X9_countFits l D g q_town q_town_houses q_town_halls q_town_posts q_town_blocks q_town_kinds q_town_posts_cells q_town_posts_tolds f_town_hour f_town_day f_town_prankHouse f_town_bells f_town_echoes f_town_bellPranks f_town_posts_size a_town_posts_cells a_town_posts_tolds a_town_blocks o6 e7) ql_X11_X9_countFits dX11_fitting_28 [1, 2, 3, 4, 5] rfl rfl rfl rfl rfl rfl ⟨Nat.le_of_ble_eq_true rfl, Nat.le_of_ble_eq_true rfl, rfl, rfl, Nat.le_of_ble_eq_true rfl, Nat.le_of_ble_eq_true rfl⟩ (Nat.le_of_ble_eq_true rfl) ?_
      cases h
      exact z_iretX X hQ (Nat.le_of_ble_eq_true rfl) (Nat.le_of_ble_eq_true rfl) hr dX11_fitting_31
    · refine z_aload_n X 0 dX11_fitting_14 rfl rfl ?_
      refine z_get (q0 := 0) (k := 0) (ci := 11) X IW_P iw_X11 rfl qf_X11_X11_town (by decide) dX11_fitting_15 rfl rfl ?_
      obtain ⟨o8, e9, h⟩ := bnd_p h
      refine z_rdV (rest := []) (q0 := 1) (ci := 9) X IW_P k_X9_countFitsAround (c_X9_countFitsAround l D g q_town q_town_houses q_town_halls q_town_posts q_town_blocks q_town_kinds q_town_posts_cells q_town_posts_tolds f_town_hour f_town_day f_town_prankHouse f_town_bells f_town_echoes f_town_bellPranks f_town_posts_size a_town_posts_cells a_town_posts_tolds a_town_blocks o8 e9) ql_X11_X9_countFitsAround dX11_fitting_18 [1, 2, 3, 4, 5] rfl rfl rfl rfl rfl rfl ⟨Nat.le_of_ble_eq_true rfl, Nat.le_of_ble_eq_true rfl, rfl, rfl, Nat.le_of_ble_eq_true rfl, Nat.le_of_ble_eq_true rfl⟩ (Nat.le_of_ble_eq_true rfl) ?_
      refine z_goto X 31 dX11_fitting_21 (by decide) ?_
      cases h
      exact z_iretX X hQ (Nat.le_of_ble_eq_true rfl) (Nat.le_of_ble_eq_true rfl) hr dX11_fitting_31
  · have h := brn_f h x5
    cases h
    exact zt_out (lv := [(0, .ref q_this), (1, .int p1)]) X hno hQ x5 (Nat.le_of_ble_eq_true rfl) (Nat.le_of_ble_eq_true rfl)

def J_X11_fix_29 (p1 : Int32) (f_town_prankHouse : Int32) (f_town_posts_size : Int32) (a_town_posts_cells : Nat → Int32) (a_town_posts_tolds : Nat → Int32) (a_town_blocks : Nat → Int32) (t0 : Int32) (x2 : Int32) : Option (Nat × Int32) :=
  bnd (F_X11_demandFound t0) (fun o8 => brn (o8 = 0) (some (0, x2)) (some (o8, (0 : Int32))))

def F_X11_fix (p1 : Int32) (f_town_prankHouse : Int32) (f_town_posts_size : Int32) (a_town_posts_cells : Nat → Int32) (a_town_posts_tolds : Nat → Int32) (a_town_blocks : Nat → Int32) : Option (Nat × Int32) :=
  bnd (F_X9_hasPrank f_town_prankHouse) (fun o1 => bnd (F_X11_demandFound o1) (fun o3 => brn (o3 = 0) (bnd (F_X9_fitAt p1 f_town_posts_size a_town_posts_cells a_town_posts_tolds a_town_blocks) (fun o6 => brn (o6 = ((-1) : Int32)) (J_X11_fix_29 p1 f_town_prankHouse f_town_posts_size a_town_posts_cells a_town_posts_tolds a_town_blocks (0 : Int32) o6) (J_X11_fix_29 p1 f_town_prankHouse f_town_posts_size a_town_posts_cells a_town_posts_tolds a_town_blocks (1 : Int32) o6))) (some (o3, (0 : Int32)))))
theorem dX11_fix_0 : decode cX11_fix 0 = .ok (.aload_n 0, 1) := by decide +kernel
theorem dX11_fix_1 : decode cX11_fix 1 = .ok (.getfield 10, 3) := by decide +kernel
theorem dX11_fix_4 : decode cX11_fix 4 = .ok (.invokevirtual 230, 3) := by decide +kernel
theorem dX11_fix_7 : decode cX11_fix 7 = .ok (.invokestatic 169, 3) := by decide +kernel
theorem dX11_fix_10 : decode cX11_fix 10 = .ok (.aload_n 0, 1) := by decide +kernel
theorem dX11_fix_11 : decode cX11_fix 11 = .ok (.getfield 10, 3) := by decide +kernel
theorem dX11_fix_14 : decode cX11_fix 14 = .ok (.iload_n 1, 1) := by decide +kernel
theorem dX11_fix_15 : decode cX11_fix 15 = .ok (.invokevirtual 240, 3) := by decide +kernel
theorem dX11_fix_18 : decode cX11_fix 18 = .ok (.istore_n 2, 1) := by decide +kernel
theorem dX11_fix_19 : decode cX11_fix 19 = .ok (.iload_n 2, 1) := by decide +kernel
theorem dX11_fix_20 : decode cX11_fix 20 = .ok (.iconst (-1), 1) := by decide +kernel
theorem dX11_fix_21 : decode cX11_fix 21 = .ok (.if_icmp .eq 7, 3) := by decide +kernel
theorem dX11_fix_24 : decode cX11_fix 24 = .ok (.iconst 1, 1) := by decide +kernel
theorem dX11_fix_25 : decode cX11_fix 25 = .ok (.goto 4, 3) := by decide +kernel
theorem dX11_fix_28 : decode cX11_fix 28 = .ok (.iconst 0, 1) := by decide +kernel
theorem dX11_fix_29 : decode cX11_fix 29 = .ok (.invokestatic 169, 3) := by decide +kernel
theorem dX11_fix_32 : decode cX11_fix 32 = .ok (.iload_n 2, 1) := by decide +kernel
theorem dX11_fix_33 : decode cX11_fix 33 = .ok (.ireturn, 1) := by decide +kernel
theorem k_X11_fix : cardV yX11_fix (Cond.code yX11_fix cX11_fix 3 (some .int)) 1 := ⟨⟨qi_X11_fix, qv_X11_fix⟩, qc_X11_fix, qn_X11, by decide +kernel, by decide +kernel, by decide +kernel⟩
set_option maxHeartbeats 4000000 in
set_option maxRecDepth 100000 in
theorem c_X11_fix (l : Launch) (hfl : l.stackTraces = false) (ak av : Nat → Nat) (aS : Nat) (D : va_G) (g : Nat → ClassId) (q_this q_town q_ahead q_kept q_past q_reason q_orders q_ways q_sheet q_town_houses q_town_halls q_town_posts q_town_blocks q_town_kinds q_town_posts_cells q_town_posts_tolds : Nat) (p1 : Int32) (f_isKept : Int32) (f_town_hour : Int32) (f_town_day : Int32) (f_town_prankHouse : Int32) (f_town_bells : Int32) (f_town_echoes : Int32) (f_town_bellPranks : Int32) (f_town_posts_size : Int32) (a_town_posts_cells : Nat → Int32) (a_town_posts_tolds : Nat → Int32) (a_town_blocks : Nat → Int32) (o : Nat × Int32) (h : F_X11_fix p1 f_town_prankHouse f_town_posts_size a_town_posts_cells a_town_posts_tolds a_town_blocks = some o) : MX l yX11_fix (Cond.code yX11_fix cX11_fix 3 (some .int)) { frames := 8, cells := 2, slots := 12, locals := 130 } ak av aS D g [.ref q_this, .int p1] [(q_this, .inr (11, [.ref q_town, .ref q_ahead, .ref q_kept, .int f_isKept, .ref q_past, .ref q_reason, .ref q_orders, .ref q_ways, .ref q_sheet])), (q_town, .inr (9, [.ref q_town_houses, .ref q_town_halls, .ref q_town_posts, .ref q_town_blocks, .ref q_town_kinds, .int f_town_hour, .int f_town_day, .int f_town_prankHouse, .int f_town_bells, .int f_town_echoes, .int f_town_bellPranks])), (q_town_posts, .inr (6, [.int f_town_posts_size, .ref q_town_posts_cells, .ref q_town_posts_tolds])), (q_town_posts_cells, .inl (g 0, 4, .inl a_town_posts_cells)), (q_town_posts_tolds, .inl (g 0, 4, .inl a_town_posts_tolds)), (q_town_blocks, .inl (g 0, 64, .inl a_town_blocks))] o.1 (some (.int o.2)) [(q_this, .inr (11, [.ref q_town, .ref q_ahead, .ref q_kept, .int f_isKept, .ref q_past, .ref q_reason, .ref q_orders, .ref q_ways, .ref q_sheet])), (q_town, .inr (9, [.ref q_town_houses, .ref q_town_halls, .ref q_town_posts, .ref q_town_blocks, .ref q_town_kinds, .int f_town_hour, .int f_town_day, .int f_town_prankHouse, .int f_town_bells, .int f_town_echoes, .int f_town_bellPranks])), (q_town_posts, .inr (6, [.int f_town_posts_size, .ref q_town_posts_cells, .ref q_town_posts_tolds])), (q_town_posts_cells, .inl (g 0, 4, .inl a_town_posts_cells)), (q_town_posts_tolds, .inl (g 0, 4, .inl a_town_posts_tolds)), (q_town_blocks, .inl (g 0, 64, .inl a_town_blocks))] 2 12 := by
  refine z_ex_start (by decide) (Nat.le_of_ble_eq_true rfl) ?_
  intro p e s m args below meth c Q A X hr hE hA hno hQ
  refine z_lv (lv' := [(0, .ref q_this), (1, .int p1)]) rfl ?_
  have H29 : ∀ (t0 : Int32) (x2 : Int32), J_X11_fix_29 p1 f_town_prankHouse f_town_posts_size a_town_posts_cells a_town_posts_tolds a_town_blocks t0 x2 = some o → Z p l e { frames := 8, cells := 2, slots := 12, locals := 130 } s m args below meth c Q 3 1 6 (IW D A s [(q_this, .inr (11, [.ref q_town, .ref q_ahead, .ref q_kept, .int f_isKept, .ref q_past, .ref q_reason, .ref q_orders, .ref q_ways, .ref q_sheet])), (q_town, .inr (9, [.ref q_town_houses, .ref q_town_halls, .ref q_town_posts, .ref q_town_blocks, .ref q_town_kinds, .int f_town_hour, .int f_town_day, .int f_town_prankHouse, .int f_town_bells, .int f_town_echoes, .int f_town_bellPranks])), (q_town_posts, .inr (6, [.int f_town_posts_size, .ref q_town_posts_cells, .ref q_town_posts_tolds])), (q_town_posts_cells, .inl (g 0, 4, .inl a_town_posts_cells)), (q_town_posts_tolds, .inl (g 0, 4, .inl a_town_posts_tolds)), (q_town_blocks, .inl (g 0, 64, .inl a_town_blocks))]) 29 [(2, .int x2)] [.int t0] := by
    intro t0 x2 h
    obtain ⟨o8, e9, h⟩ := bnd_p h
    refine z_exS (rest := []) (ws' := [(q_this, .inr (11, [.ref q_town, .ref q_ahead, .ref q_kept, .int f_isKept, .ref q_past, .ref q_reason, .ref q_orders, .ref q_ways, .ref q_sheet])), (q_town, .inr (9, [.ref q_town_houses, .ref q_town_halls, .ref q_town_posts, .ref q_town_blocks, .ref q_town_kinds, .int f_town_hour, .int f_town_day, .int f_town_prankHouse, .int f_town_bells, .int f_town_echoes, .int f_town_bellPranks])), (q_town_posts, .inr (6, [.int f_town_posts_size, .ref q_town_posts_cells, .ref q_town_posts_tolds])), (q_town_posts_cells, .inl (g 0, 4, .inl a_town_posts_cells)), (q_town_posts_tolds, .inl (g 0, 4, .inl a_town_posts_tolds)), (q_town_blocks, .inl (g 0, 64, .inl a_town_blocks))]) X hE hA k_X11_demandFound (c_X11_demandFound l hfl ak av aS D g t0 o8 e9) ql_X11_X11_demandFound dX11_fix_29 bkc_nil bk_nil rfl rfl ⟨Nat.le_of_ble_eq_true rfl, Nat.le_of_ble_eq_true rfl, rfl, rfl, Nat.le_of_ble_eq_true rfl, Nat.le_of_ble_eq_true rfl⟩ (Nat.le_of_ble_eq_true rfl) (fun x10 => ?_) (fun x10 => ?_)
    · have h := brn_t h x10
      refine z_iload_n X 0 dX11_fix_32 rfl rfl ?_
      cases h
      exact z_iretX X hQ (Nat.le_of_ble_eq_true rfl) (Nat.le_of_ble_eq_true rfl) hr dX11_fix_33
    · have h := brn_f h x10
      cases h
      exact zt_out (lv := [(2, .int x2)]) X hno hQ x10 (Nat.le_of_ble_eq_true rfl) (Nat.le_of_ble_eq_true rfl)
  refine z_aload_n X 0 dX11_fix_0 rfl rfl ?_
  refine z_get (q0 := 0) (k := 0) (ci := 11) X IW_P iw_X11 rfl qf_X11_X11_town (by decide) dX11_fix_1 rfl rfl ?_
  obtain ⟨o1, e2, h⟩ := bnd_p h
  refine z_rdV (rest := []) (q0 := 1) (ci := 9) X IW_P k_X9_hasPrank (c_X9_hasPrank l D g q_town q_town_houses q_town_halls q_town_posts q_town_blocks q_town_kinds f_town_hour f_town_day f_town_prankHouse f_town_bells f_town_echoes f_town_bellPranks o1 e2) ql_X11_X9_hasPrank dX11_fix_4 [1] rfl rfl rfl rfl rfl rfl ⟨Nat.le_of_ble_eq_true rfl, Nat.le_of_ble_eq_true rfl, rfl, rfl, Nat.le_of_ble_eq_true rfl, Nat.le_of_ble_eq_true rfl⟩ (Nat.le_of_ble_eq_true rfl) ?_
  obtain ⟨o3, e4, h⟩ := bnd_p h
  refine z_exS (rest := []) (ws' := [(q_this, .inr (11, [.ref q_town, .ref q_ahead, .ref q_kept, .int f_isKept, .ref q_past, .ref q_reason, .ref q_orders, .ref q_ways, .ref q_sheet])), (q_town, .inr (9, [.ref q_town_houses, .ref q_town_halls, .ref q_town_posts, .ref q_town_blocks, .ref q_town_kinds, .int f_town_hour, .int f_town_day, .int f_town_prankHouse, .int f_town_bells, .int f_town_echoes, .int f_town_bellPranks])), (q_town_posts, .inr (6, [.int f_town_posts_size, .ref q_town_posts_cells, .ref q_town_posts_tolds])), (q_town_posts_cells, .inl (g 0, 4, .inl a_town_posts_cells)), (q_town_posts_tolds, .inl (g 0, 4, .inl a_town_posts_tolds)), (q_town_blocks, .inl (g 0, 64, .inl a_town_blocks))]) X hE hA k_X11_demandFound (c_X11_demandFound l hfl ak av aS D g o1 o3 e4) ql_X11_X11_demandFound dX11_fix_7 bkc_nil bk_nil rfl rfl ⟨Nat.le_of_ble_eq_true rfl, Nat.le_of_ble_eq_true rfl, rfl, rfl, Nat.le_of_ble_eq_true rfl, Nat.le_of_ble_eq_true rfl⟩ (Nat.le_of_ble_eq_true rfl) (fun x5 => ?_) (fun x5 => ?_)
  · have h := brn_t h x5
    refine z_aload_n X 0 dX11_fix_10 rfl rfl ?_
    refine z_get (q0 := 0) (k := 0) (ci := 11) X IW_P iw_X11 rfl qf_X11_X11_town (by decide) dX11_fix_11 rfl rfl ?_
    refine z_iload_n X 1 dX11_fix_14 rfl rfl ?_
    obtain ⟨o6, e7, h⟩ := bnd_p h
    refine z_rdV (rest := []) (q0 := 1) (ci := 9) X IW_P k_X9_fitAt (c_X9_fitAt l D g q_town q_town_houses q_town_halls q_town_posts q_town_blocks q_town_kinds q_town_posts_cells q_town_posts_tolds p1 f_town_hour f_town_day f_town_prankHouse f_town_bells f_town_echoes f_town_bellPranks f_town_posts_size a_town_posts_cells a_town_posts_tolds a_town_blocks o6 e7) ql_X11_X9_fitAt dX11_fix_15 [1, 2, 3, 4, 5] rfl rfl rfl rfl rfl rfl ⟨Nat.le_of_ble_eq_true rfl, Nat.le_of_ble_eq_true rfl, rfl, rfl, Nat.le_of_ble_eq_true rfl, Nat.le_of_ble_eq_true rfl⟩ (Nat.le_of_ble_eq_true rfl) ?_
    refine z_istore_n X [(2, .int o6), (0, .ref q_this), (1, .int p1)] dX11_fix_18 rfl (by decide) rfl ?_
    refine z_iload_n X 0 dX11_fix_19 rfl rfl ?_
    refine z_iconst X ((-1) : Int32) dX11_fix_20 (by decide) ?_
    refine z_icmp_eq X 28 dX11_fix_21 (by decide) h (fun _ h => ?_) (fun _ h => ?_)
    · refine z_iconst X (0 : Int32) dX11_fix_28 (by decide) ?_
      refine z_widen (k := 1) (n := 6) (Nat.le_of_ble_eq_true rfl) (Nat.le_of_ble_eq_true rfl) ?_
      refine z_sub (lv' := [(2, .int o6)]) [0] rfl ?_
      exact H29 (0 : Int32) o6 h
    · refine z_iconst X (1 : Int32) dX11_fix_24 (by decide) ?_
      refine z_goto X 29 dX11_fix_25 (by decide) ?_
      refine z_widen (k := 1) (n := 6) (Nat.le_of_ble_eq_true rfl) (Nat.le_of_ble_eq_true rfl) ?_
      refine z_sub (lv' := [(2, .int o6)]) [0] rfl ?_
      exact H29 (1 : Int32) o6 h
  · have h := brn_f h x5
    cases h
    exact zt_out (lv := [(0, .ref q_this), (1, .int p1)]) X hno hQ x5 (Nat.le_of_ble_eq_true rfl) (Nat.le_of_ble_eq_true rfl)

def J_X11_apart_19 (p1 : Int32) (p2 : Int32) (t0 : Int32) : Option (Nat × Int32) :=
  bnd (F_X11_demandProper t0) (fun o3 => brn (o3 = 0) (bnd (F_X0_distance p1 p2) (fun o6 => some (0, o6))) (some (o3, (0 : Int32))))

def J_X11_apart_18 (p1 : Int32) (p2 : Int32) : Option (Nat × Int32) :=
  J_X11_apart_19 p1 p2 (0 : Int32)

def F_X11_apart (p1 : Int32) (p2 : Int32) : Option (Nat × Int32) :=
  bnd (F_X0_isCell p1) (fun o1 => brn (o1 = 0) (J_X11_apart_18 p1 p2) (bnd (F_X0_isCell p2) (fun o8 => brn (o8 = 0) (J_X11_apart_18 p1 p2) (J_X11_apart_19 p1 p2 (1 : Int32)))))
theorem dX11_apart_0 : decode cX11_apart 0 = .ok (.iload_n 1, 1) := by decide +kernel
theorem dX11_apart_1 : decode cX11_apart 1 = .ok (.invokestatic 225, 3) := by decide +kernel
theorem dX11_apart_4 : decode cX11_apart 4 = .ok (.ifCond .eq 14, 3) := by decide +kernel
theorem dX11_apart_7 : decode cX11_apart 7 = .ok (.iload_n 2, 1) := by decide +kernel
theorem dX11_apart_8 : decode cX11_apart 8 = .ok (.invokestatic 225, 3) := by decide +kernel
theorem dX11_apart_11 : decode cX11_apart 11 = .ok (.ifCond .eq 7, 3) := by decide +kernel
theorem dX11_apart_14 : decode cX11_apart 14 = .ok (.iconst 1, 1) := by decide +kernel
theorem dX11_apart_15 : decode cX11_apart 15 = .ok (.goto 4, 3) := by decide +kernel
theorem dX11_apart_18 : decode cX11_apart 18 = .ok (.iconst 0, 1) := by decide +kernel
theorem dX11_apart_19 : decode cX11_apart 19 = .ok (.invokestatic 124, 3) := by decide +kernel
theorem dX11_apart_22 : decode cX11_apart 22 = .ok (.iload_n 1, 1) := by decide +kernel
theorem dX11_apart_23 : decode cX11_apart 23 = .ok (.iload_n 2, 1) := by decide +kernel
theorem dX11_apart_24 : decode cX11_apart 24 = .ok (.invokestatic 243, 3) := by decide +kernel
theorem dX11_apart_27 : decode cX11_apart 27 = .ok (.ireturn, 1) := by decide +kernel
theorem k_X11_apart : cardV yX11_apart (Cond.code yX11_apart cX11_apart 3 (some .int)) 2 := ⟨⟨qi_X11_apart, qv_X11_apart⟩, qc_X11_apart, qn_X11, by decide +kernel, by decide +kernel, by decide +kernel⟩
set_option maxHeartbeats 4000000 in
set_option maxRecDepth 100000 in
theorem c_X11_apart (l : Launch) (hfl : l.stackTraces = false) (ak av : Nat → Nat) (aS : Nat) (D : va_G) (g : Nat → ClassId) (q_this : Nat) (p1 p2 : Int32) (o : Nat × Int32) (h : F_X11_apart p1 p2 = some o) : MX l yX11_apart (Cond.code yX11_apart cX11_apart 3 (some .int)) { frames := 8, cells := 1, slots := 6, locals := 130 } ak av aS D g [.ref q_this, .int p1, .int p2] [] o.1 (some (.int o.2)) [] 1 6 := by
  refine z_ex_start (by decide) (Nat.le_of_ble_eq_true rfl) ?_
  intro p e s m args below meth c Q A X hr hE hA hno hQ
  refine z_lv (lv' := [(0, .ref q_this), (1, .int p1), (2, .int p2)]) rfl ?_
  have H19 : ∀ (t0 : Int32), J_X11_apart_19 p1 p2 t0 = some o → Z p l e { frames := 8, cells := 1, slots := 6, locals := 130 } s m args below meth c Q 3 0 0 (IW D A s []) 19 [(1, .int p1), (2, .int p2)] [.int t0] := by
    intro t0 h
    obtain ⟨o3, e4, h⟩ := bnd_p h
    refine z_exS (rest := []) (ws' := []) X hE hA k_X11_demandProper (c_X11_demandProper l hfl ak av aS D g t0 o3 e4) ql_X11_X11_demandProper dX11_apart_19 bkc_nil bk_nil rfl rfl ⟨Nat.le_of_ble_eq_true rfl, Nat.le_of_ble_eq_true rfl, rfl, rfl, Nat.le_of_ble_eq_true rfl, Nat.le_of_ble_eq_true rfl⟩ (Nat.le_of_ble_eq_true rfl) (fun x5 => ?_) (fun x5 => ?_)
    · have h := brn_t h x5
      refine z_iload_n X 0 dX11_apart_22 rfl rfl ?_
      refine z_iload_n X 1 dX11_apart_23 rfl rfl ?_
      obtain ⟨o6, e7, h⟩ := bnd_p h
      refine z_rdS (rest := []) X IW_P k_X0_distance (c_X0_distance l D g p1 p2 o6 e7) ql_X11_X0_distance dX11_apart_24 [] rfl rfl rfl ⟨Nat.le_of_ble_eq_true rfl, Nat.le_of_ble_eq_true rfl, rfl, rfl, Nat.le_of_ble_eq_true rfl, Nat.le_of_ble_eq_true rfl⟩ (Nat.le_of_ble_eq_true rfl) ?_
      cases h
      exact z_iretX X hQ (Nat.le_of_ble_eq_true rfl) (Nat.le_of_ble_eq_true rfl) hr dX11_apart_27
    · have h := brn_f h x5
      cases h
      exact zt_out (lv := [(1, .int p1), (2, .int p2)]) X hno hQ x5 (Nat.le_of_ble_eq_true rfl) (Nat.le_of_ble_eq_true rfl)
  have H18 : J_X11_apart_18 p1 p2 = some o → Z p l e { frames := 8, cells := 1, slots := 6, locals := 130 } s m args below meth c Q 3 0 0 (IW D A s []) 18 [(1, .int p1), (2, .int p2)] [] := by
    intro  h
    refine z_iconst X (0 : Int32) dX11_apart_18 (by decide) ?_
    refine z_widen (k := 0) (n := 0) (Nat.le_of_ble_eq_true rfl) (Nat.le_of_ble_eq_true rfl) ?_
    exact H19 (0 : Int32) h
  refine z_iload_n X 1 dX11_apart_0 rfl rfl ?_
  obtain ⟨o1, e2, h⟩ := bnd_p h
  refine z_rdS (rest := []) X IW_P k_X0_isCell (c_X0_isCell l D g p1 o1 e2) ql_X11_X0_isCell dX11_apart_1 [] rfl rfl rfl ⟨Nat.le_of_ble_eq_true rfl, Nat.le_of_ble_eq_true rfl, rfl, rfl, Nat.le_of_ble_eq_true rfl, Nat.le_of_ble_eq_true rfl⟩ (Nat.le_of_ble_eq_true rfl) ?_
  refine z_if_eq X 18 dX11_apart_4 (by decide) h (fun _ h => ?_) (fun _ h => ?_)
  · refine z_widen (k := 0) (n := 0) (Nat.le_of_ble_eq_true rfl) (Nat.le_of_ble_eq_true rfl) ?_
    refine z_sub (lv' := [(1, .int p1), (2, .int p2)]) [1, 2] rfl ?_
    exact H18  h
  · refine z_iload_n X 2 dX11_apart_7 rfl rfl ?_
    obtain ⟨o8, e9, h⟩ := bnd_p h
    refine z_rdS (rest := []) X IW_P k_X0_isCell (c_X0_isCell l D g p2 o8 e9) ql_X11_X0_isCell dX11_apart_8 [] rfl rfl rfl ⟨Nat.le_of_ble_eq_true rfl, Nat.le_of_ble_eq_true rfl, rfl, rfl, Nat.le_of_ble_eq_true rfl, Nat.le_of_ble_eq_true rfl⟩ (Nat.le_of_ble_eq_true rfl) ?_
    refine z_if_eq X 18 dX11_apart_11 (by decide) h (fun _ h => ?_) (fun _ h => ?_)
    · refine z_widen (k := 0) (n := 0) (Nat.le_of_ble_eq_true rfl) (Nat.le_of_ble_eq_true rfl) ?_
      refine z_sub (lv' := [(1, .int p1), (2, .int p2)]) [1, 2] rfl ?_
      exact H18  h
    · refine z_iconst X (1 : Int32) dX11_apart_14 (by decide) ?_
      refine z_goto X 19 dX11_apart_15 (by decide) ?_
      refine z_widen (k := 0) (n := 0) (Nat.le_of_ble_eq_true rfl) (Nat.le_of_ble_eq_true rfl) ?_
      refine z_sub (lv' := [(1, .int p1), (2, .int p2)]) [1, 2] rfl ?_
      exact H19 (1 : Int32) h

def J_X11_way_68 (p1 : Int32) (p2 : Int32) (p3 : Int32) (a_town_blocks : Nat → Int32) (t0 : Int32) (x4 : Int32) (a_ways_steps : Nat → Int32) (a_ways_queue : Nat → Int32) (a_ways_lows : Nat → Int32) : Option (Nat × Int32 × (Nat → Int32) × (Nat → Int32) × (Nat → Int32)) :=
  bnd (F_X11_demandFound t0) (fun o8 => brn (o8 = 0) (some (0, x4, a_ways_steps, a_ways_queue, a_ways_lows)) (some (o8, (0 : Int32), a_ways_steps, a_ways_queue, a_ways_lows)))

def J_X11_way_55 (p1 : Int32) (p2 : Int32) (p3 : Int32) (a_town_blocks : Nat → Int32) (t0 : Int32) (a_ways_steps : Nat → Int32) (a_ways_queue : Nat → Int32) (a_ways_lows : Nat → Int32) : Option (Nat × Int32 × (Nat → Int32) × (Nat → Int32) × (Nat → Int32)) :=
  brn (t0 = ((-1) : Int32)) (J_X11_way_68 p1 p2 p3 a_town_blocks (0 : Int32) t0 a_ways_steps a_ways_queue a_ways_lows) (J_X11_way_68 p1 p2 p3 a_town_blocks (1 : Int32) t0 a_ways_steps a_ways_queue a_ways_lows)

def J_X11_way_19 (p1 : Int32) (p2 : Int32) (p3 : Int32) (a_town_blocks : Nat → Int32) (t0 : Int32) (a_ways_steps : Nat → Int32) (a_ways_queue : Nat → Int32) (a_ways_lows : Nat → Int32) : Option (Nat × Int32 × (Nat → Int32) × (Nat → Int32) × (Nat → Int32)) :=
  bnd (F_X11_demandProper t0) (fun o3 => brn (o3 = 0) (brn (p3 = 0) (bnd (F_X10_stepsTo p1 p2 a_town_blocks a_ways_steps a_ways_queue) (fun o6 => J_X11_way_55 p1 p2 p3 a_town_blocks o6.1 o6.2.1 o6.2.2 a_ways_lows)) (bnd (F_X10_lowestTo p1 p2 a_town_blocks a_ways_lows) (fun o11 => J_X11_way_55 p1 p2 p3 a_town_blocks o11.1 a_ways_steps a_ways_queue o11.2))) (some (o3, (0 : Int32), a_ways_steps, a_ways_queue, a_ways_lows)))

def J_X11_way_18 (p1 : Int32) (p2 : Int32) (p3 : Int32) (a_town_blocks : Nat → Int32) (a_ways_steps : Nat → Int32) (a_ways_queue : Nat → Int32) (a_ways_lows : Nat → Int32) : Option (Nat × Int32 × (Nat → Int32) × (Nat → Int32) × (Nat → Int32)) :=
  J_X11_way_19 p1 p2 p3 a_town_blocks (0 : Int32) a_ways_steps a_ways_queue a_ways_lows

def F_X11_way (p1 : Int32) (p2 : Int32) (p3 : Int32) (a_town_blocks : Nat → Int32) (a_ways_steps : Nat → Int32) (a_ways_queue : Nat → Int32) (a_ways_lows : Nat → Int32) : Option (Nat × Int32 × (Nat → Int32) × (Nat → Int32) × (Nat → Int32)) :=
  bnd (F_X0_isCell p1) (fun o1 => brn (o1 = 0) (J_X11_way_18 p1 p2 p3 a_town_blocks a_ways_steps a_ways_queue a_ways_lows) (bnd (F_X0_isCell p2) (fun o13 => brn (o13 = 0) (J_X11_way_18 p1 p2 p3 a_town_blocks a_ways_steps a_ways_queue a_ways_lows) (J_X11_way_19 p1 p2 p3 a_town_blocks (1 : Int32) a_ways_steps a_ways_queue a_ways_lows))))
theorem dX11_way_0 : decode cX11_way 0 = .ok (.iload_n 1, 1) := by decide +kernel
theorem dX11_way_1 : decode cX11_way 1 = .ok (.invokestatic 225, 3) := by decide +kernel
theorem dX11_way_4 : decode cX11_way 4 = .ok (.ifCond .eq 14, 3) := by decide +kernel
theorem dX11_way_7 : decode cX11_way 7 = .ok (.iload_n 2, 1) := by decide +kernel
theorem dX11_way_8 : decode cX11_way 8 = .ok (.invokestatic 225, 3) := by decide +kernel
theorem dX11_way_11 : decode cX11_way 11 = .ok (.ifCond .eq 7, 3) := by decide +kernel
theorem dX11_way_14 : decode cX11_way 14 = .ok (.iconst 1, 1) := by decide +kernel
theorem dX11_way_15 : decode cX11_way 15 = .ok (.goto 4, 3) := by decide +kernel
theorem dX11_way_18 : decode cX11_way 18 = .ok (.iconst 0, 1) := by decide +kernel
theorem dX11_way_19 : decode cX11_way 19 = .ok (.invokestatic 124, 3) := by decide +kernel
theorem dX11_way_22 : decode cX11_way 22 = .ok (.iload_n 3, 1) := by decide +kernel
theorem dX11_way_23 : decode cX11_way 23 = .ok (.ifCond .eq 19, 3) := by decide +kernel
theorem dX11_way_26 : decode cX11_way 26 = .ok (.aload_n 0, 1) := by decide +kernel
theorem dX11_way_27 : decode cX11_way 27 = .ok (.getfield 50, 3) := by decide +kernel
theorem dX11_way_30 : decode cX11_way 30 = .ok (.aload_n 0, 1) := by decide +kernel
theorem dX11_way_31 : decode cX11_way 31 = .ok (.getfield 10, 3) := by decide +kernel
theorem dX11_way_34 : decode cX11_way 34 = .ok (.iload_n 1, 1) := by decide +kernel
theorem dX11_way_35 : decode cX11_way 35 = .ok (.iload_n 2, 1) := by decide +kernel
theorem dX11_way_36 : decode cX11_way 36 = .ok (.invokevirtual 247, 3) := by decide +kernel
theorem dX11_way_39 : decode cX11_way 39 = .ok (.goto 16, 3) := by decide +kernel
theorem dX11_way_42 : decode cX11_way 42 = .ok (.aload_n 0, 1) := by decide +kernel
theorem dX11_way_43 : decode cX11_way 43 = .ok (.getfield 50, 3) := by decide +kernel
theorem dX11_way_46 : decode cX11_way 46 = .ok (.aload_n 0, 1) := by decide +kernel
theorem dX11_way_47 : decode cX11_way 47 = .ok (.getfield 10, 3) := by decide +kernel
theorem dX11_way_50 : decode cX11_way 50 = .ok (.iload_n 1, 1) := by decide +kernel
theorem dX11_way_51 : decode cX11_way 51 = .ok (.iload_n 2, 1) := by decide +kernel
theorem dX11_way_52 : decode cX11_way 52 = .ok (.invokevirtual 251, 3) := by decide +kernel
theorem dX11_way_55 : decode cX11_way 55 = .ok (.istore 4, 2) := by decide +kernel
theorem dX11_way_57 : decode cX11_way 57 = .ok (.iload 4, 2) := by decide +kernel
theorem dX11_way_59 : decode cX11_way 59 = .ok (.iconst (-1), 1) := by decide +kernel
theorem dX11_way_60 : decode cX11_way 60 = .ok (.if_icmp .eq 7, 3) := by decide +kernel
theorem dX11_way_63 : decode cX11_way 63 = .ok (.iconst 1, 1) := by decide +kernel
theorem dX11_way_64 : decode cX11_way 64 = .ok (.goto 4, 3) := by decide +kernel
theorem dX11_way_67 : decode cX11_way 67 = .ok (.iconst 0, 1) := by decide +kernel
theorem dX11_way_68 : decode cX11_way 68 = .ok (.invokestatic 169, 3) := by decide +kernel
theorem dX11_way_71 : decode cX11_way 71 = .ok (.iload 4, 2) := by decide +kernel
theorem dX11_way_73 : decode cX11_way 73 = .ok (.ireturn, 1) := by decide +kernel
theorem k_X11_way : cardV yX11_way (Cond.code yX11_way cX11_way 5 (some .int)) 3 := ⟨⟨qi_X11_way, qv_X11_way⟩, qc_X11_way, qn_X11, by decide +kernel, by decide +kernel, by decide +kernel⟩
set_option maxHeartbeats 4000000 in
set_option maxRecDepth 100000 in
theorem c_X11_way (l : Launch) (hfl : l.stackTraces = false) (ak av : Nat → Nat) (aS : Nat) (D : va_G) (g : Nat → ClassId) (q_this q_town q_ahead q_kept q_past q_reason q_orders q_ways q_sheet q_town_houses q_town_halls q_town_posts q_town_blocks q_town_kinds q_ways_steps q_ways_queue q_ways_lows q_ways_stops : Nat) (p1 p2 p3 : Int32) (f_isKept : Int32) (f_town_hour : Int32) (f_town_day : Int32) (f_town_prankHouse : Int32) (f_town_bells : Int32) (f_town_echoes : Int32) (f_town_bellPranks : Int32) (a_town_blocks : Nat → Int32) (f_ways_stopCount : Int32) (f_ways_stepSum : Int32) (a_ways_steps : Nat → Int32) (a_ways_queue : Nat → Int32) (a_ways_lows : Nat → Int32) (o : Nat × Int32 × (Nat → Int32) × (Nat → Int32) × (Nat → Int32)) (h : F_X11_way p1 p2 p3 a_town_blocks a_ways_steps a_ways_queue a_ways_lows = some o) : MX l yX11_way (Cond.code yX11_way cX11_way 5 (some .int)) { frames := 8, cells := 2, slots := 12, locals := 140 } ak av aS D g [.ref q_this, .int p1, .int p2, .int p3] [(q_this, .inr (11, [.ref q_town, .ref q_ahead, .ref q_kept, .int f_isKept, .ref q_past, .ref q_reason, .ref q_orders, .ref q_ways, .ref q_sheet])), (q_town, .inr (9, [.ref q_town_houses, .ref q_town_halls, .ref q_town_posts, .ref q_town_blocks, .ref q_town_kinds, .int f_town_hour, .int f_town_day, .int f_town_prankHouse, .int f_town_bells, .int f_town_echoes, .int f_town_bellPranks])), (q_town_blocks, .inl (g 0, 64, .inl a_town_blocks)), (q_ways, .inr (10, [.ref q_ways_steps, .ref q_ways_queue, .ref q_ways_lows, .ref q_ways_stops, .int f_ways_stopCount, .int f_ways_stepSum])), (q_ways_steps, .inl (g 0, 64, .inl a_ways_steps)), (q_ways_queue, .inl (g 0, 64, .inl a_ways_queue)), (q_ways_lows, .inl (g 0, 64, .inl a_ways_lows))] o.1 (some (.int o.2.1)) [(q_this, .inr (11, [.ref q_town, .ref q_ahead, .ref q_kept, .int f_isKept, .ref q_past, .ref q_reason, .ref q_orders, .ref q_ways, .ref q_sheet])), (q_town, .inr (9, [.ref q_town_houses, .ref q_town_halls, .ref q_town_posts, .ref q_town_blocks, .ref q_town_kinds, .int f_town_hour, .int f_town_day, .int f_town_prankHouse, .int f_town_bells, .int f_town_echoes, .int f_town_bellPranks])), (q_town_blocks, .inl (g 0, 64, .inl a_town_blocks)), (q_ways, .inr (10, [.ref q_ways_steps, .ref q_ways_queue, .ref q_ways_lows, .ref q_ways_stops, .int f_ways_stopCount, .int f_ways_stepSum])), (q_ways_steps, .inl (g 0, 64, .inl o.2.2.1)), (q_ways_queue, .inl (g 0, 64, .inl o.2.2.2.1)), (q_ways_lows, .inl (g 0, 64, .inl o.2.2.2.2))] 2 12 := by
  refine z_ex_start (by decide) (Nat.le_of_ble_eq_true rfl) ?_
  intro p e s m args below meth c Q A X hr hE hA hno hQ
  refine z_lv (lv' := [(0, .ref q_this), (1, .int p1), (2, .int p2), (3, .int p3)]) rfl ?_
  have H68 : ∀ (t0 : Int32) (x4 : Int32) (a_ways_steps : Nat → Int32) (a_ways_queue : Nat → Int32) (a_ways_lows : Nat → Int32), J_X11_way_68 p1 p2 p3 a_town_blocks t0 x4 a_ways_steps a_ways_queue a_ways_lows = some o → Z p l e { frames := 8, cells := 2, slots := 12, locals := 140 } s m args below meth c Q 5 1 6 (IW D A s [(q_this, .inr (11, [.ref q_town, .ref q_ahead, .ref q_kept, .int f_isKept, .ref q_past, .ref q_reason, .ref q_orders, .ref q_ways, .ref q_sheet])), (q_town, .inr (9, [.ref q_town_houses, .ref q_town_halls, .ref q_town_posts, .ref q_town_blocks, .ref q_town_kinds, .int f_town_hour, .int f_town_day, .int f_town_prankHouse, .int f_town_bells, .int f_town_echoes, .int f_town_bellPranks])), (q_town_blocks, .inl (g 0, 64, .inl a_town_blocks)), (q_ways, .inr (10, [.ref q_ways_steps, .ref q_ways_queue, .ref q_ways_lows, .ref q_ways_stops, .int f_ways_stopCount, .int f_ways_stepSum])), (q_ways_steps, .inl (g 0, 64, .inl a_ways_steps)), (q_ways_queue, .inl (g 0, 64, .inl a_ways_queue)), (q_ways_lows, .inl (g 0, 64, .inl a_ways_lows))]) 68 [(4, .int x4)] [.int t0] := by
    intro t0 x4 a_ways_steps a_ways_queue a_ways_lows h
    obtain ⟨o8, e9, h⟩ := bnd_p h
    refine z_exS (rest := []) (ws' := [(q_this, .inr (11, [.ref q_town, .ref q_ahead, .ref q_kept, .int f_isKept, .ref q_past, .ref q_reason, .ref q_orders, .ref q_ways, .ref q_sheet])), (q_town, .inr (9, [.ref q_town_houses, .ref q_town_halls, .ref q_town_posts, .ref q_town_blocks, .ref q_town_kinds, .int f_town_hour, .int f_town_day, .int f_town_prankHouse, .int f_town_bells, .int f_town_echoes, .int f_town_bellPranks])), (q_town_blocks, .inl (g 0, 64, .inl a_town_blocks)), (q_ways, .inr (10, [.ref q_ways_steps, .ref q_ways_queue, .ref q_ways_lows, .ref q_ways_stops, .int f_ways_stopCount, .int f_ways_stepSum])), (q_ways_steps, .inl (g 0, 64, .inl a_ways_steps)), (q_ways_queue, .inl (g 0, 64, .inl a_ways_queue)), (q_ways_lows, .inl (g 0, 64, .inl a_ways_lows))]) X hE hA k_X11_demandFound (c_X11_demandFound l hfl ak av aS D g t0 o8 e9) ql_X11_X11_demandFound dX11_way_68 bkc_nil bk_nil rfl rfl ⟨Nat.le_of_ble_eq_true rfl, Nat.le_of_ble_eq_true rfl, rfl, rfl, Nat.le_of_ble_eq_true rfl, Nat.le_of_ble_eq_true rfl⟩ (Nat.le_of_ble_eq_true rfl) (fun x10 => ?_) (fun x10 => ?_)
    · have h := brn_t h x10
      refine z_iload X 0 dX11_way_71 rfl ?_
      cases h
      exact z_iretX X hQ (Nat.le_of_ble_eq_true rfl) (Nat.le_of_ble_eq_true rfl) hr dX11_way_73
    · have h := brn_f h x10
      cases h
      exact zt_out (lv := [(4, .int x4)]) X hno hQ x10 (Nat.le_of_ble_eq_true rfl) (Nat.le_of_ble_eq_true rfl)
  have H55 : ∀ (t0 : Int32) (a_ways_steps : Nat → Int32) (a_ways_queue : Nat → Int32) (a_ways_lows : Nat → Int32), J_X11_way_55 p1 p2 p3 a_town_blocks t0 a_ways_steps a_ways_queue a_ways_lows = some o → Z p l e { frames := 8, cells := 2, slots := 12, locals := 140 } s m args below meth c Q 5 1 6 (IW D A s [(q_this, .inr (11, [.ref q_town, .ref q_ahead, .ref q_kept, .int f_isKept, .ref q_past, .ref q_reason, .ref q_orders, .ref q_ways, .ref q_sheet])), (q_town, .inr (9, [.ref q_town_houses, .ref q_town_halls, .ref q_town_posts, .ref q_town_blocks, .ref q_town_kinds, .int f_town_hour, .int f_town_day, .int f_town_prankHouse, .int f_town_bells, .int f_town_echoes, .int f_town_bellPranks])), (q_town_blocks, .inl (g 0, 64, .inl a_town_blocks)), (q_ways, .inr (10, [.ref q_ways_steps, .ref q_ways_queue, .ref q_ways_lows, .ref q_ways_stops, .int f_ways_stopCount, .int f_ways_stepSum])), (q_ways_steps, .inl (g 0, 64, .inl a_ways_steps)), (q_ways_queue, .inl (g 0, 64, .inl a_ways_queue)), (q_ways_lows, .inl (g 0, 64, .inl a_ways_lows))]) 55 [] [.int t0] := by
    intro t0 a_ways_steps a_ways_queue a_ways_lows h
    refine z_istore X [(4, .int t0)] dX11_way_55 (by decide) rfl ?_
    refine z_iload X 0 dX11_way_57 rfl ?_
    refine z_iconst X ((-1) : Int32) dX11_way_59 (by decide) ?_
    refine z_icmp_eq X 67 dX11_way_60 (by decide) h (fun _ h => ?_) (fun _ h => ?_)
    · refine z_iconst X (0 : Int32) dX11_way_67 (by decide) ?_
      refine z_widen (k := 1) (n := 6) (Nat.le_of_ble_eq_true rfl) (Nat.le_of_ble_eq_true rfl) ?_
      exact H68 (0 : Int32) t0 a_ways_steps a_ways_queue a_ways_lows h
    · refine z_iconst X (1 : Int32) dX11_way_63 (by decide) ?_
      refine z_goto X 68 dX11_way_64 (by decide) ?_
      refine z_widen (k := 1) (n := 6) (Nat.le_of_ble_eq_true rfl) (Nat.le_of_ble_eq_true rfl) ?_
      exact H68 (1 : Int32) t0 a_ways_steps a_ways_queue a_ways_lows h
  have H19 : ∀ (t0 : Int32) (a_ways_steps : Nat → Int32) (a_ways_queue : Nat → Int32) (a_ways_lows : Nat → Int32), J_X11_way_19 p1 p2 p3 a_town_blocks t0 a_ways_steps a_ways_queue a_ways_lows = some o → Z p l e { frames := 8, cells := 2, slots := 12, locals := 140 } s m args below meth c Q 5 0 0 (IW D A s [(q_this, .inr (11, [.ref q_town, .ref q_ahead, .ref q_kept, .int f_isKept, .ref q_past, .ref q_reason, .ref q_orders, .ref q_ways, .ref q_sheet])), (q_town, .inr (9, [.ref q_town_houses, .ref q_town_halls, .ref q_town_posts, .ref q_town_blocks, .ref q_town_kinds, .int f_town_hour, .int f_town_day, .int f_town_prankHouse, .int f_town_bells, .int f_town_echoes, .int f_town_bellPranks])), (q_town_blocks, .inl (g 0, 64, .inl a_town_blocks)), (q_ways, .inr (10, [.ref q_ways_steps, .ref q_ways_queue, .ref q_ways_lows, .ref q_ways_stops, .int f_ways_stopCount, .int f_ways_stepSum])), (q_ways_steps, .inl (g 0, 64, .inl a_ways_steps)), (q_ways_queue, .inl (g 0, 64, .inl a_ways_queue)), (q_ways_lows, .inl (g 0, 64, .inl a_ways_lows))]) 19 [(0, .ref q_this), (1, .int p1), (2, .int p2), (3, .int p3)] [.int t0] := by
    intro t0 a_ways_steps a_ways_queue a_ways_lows h
    obtain ⟨o3, e4, h⟩ := bnd_p h
    refine z_exS (rest := []) (ws' := [(q_this, .inr (11, [.ref q_town, .ref q_ahead, .ref q_kept, .int f_isKept, .ref q_past, .ref q_reason, .ref q_orders, .ref q_ways, .ref q_sheet])), (q_town, .inr (9, [.ref q_town_houses, .ref q_town_halls, .ref q_town_posts, .ref q_town_blocks, .ref q_town_kinds, .int f_town_hour, .int f_town_day, .int f_town_prankHouse, .int f_town_bells, .int f_town_echoes, .int f_town_bellPranks])), (q_town_blocks, .inl (g 0, 64, .inl a_town_blocks)), (q_ways, .inr (10, [.ref q_ways_steps, .ref q_ways_queue, .ref q_ways_lows, .ref q_ways_stops, .int f_ways_stopCount, .int f_ways_stepSum])), (q_ways_steps, .inl (g 0, 64, .inl a_ways_steps)), (q_ways_queue, .inl (g 0, 64, .inl a_ways_queue)), (q_ways_lows, .inl (g 0, 64, .inl a_ways_lows))]) X hE hA k_X11_demandProper (c_X11_demandProper l hfl ak av aS D g t0 o3 e4) ql_X11_X11_demandProper dX11_way_19 bkc_nil bk_nil rfl rfl ⟨Nat.le_of_ble_eq_true rfl, Nat.le_of_ble_eq_true rfl, rfl, rfl, Nat.le_of_ble_eq_true rfl, Nat.le_of_ble_eq_true rfl⟩ (Nat.le_of_ble_eq_true rfl) (fun x5 => ?_) (fun x5 => ?_)
    · have h := brn_t h x5
      refine z_iload_n X 3 dX11_way_22 rfl rfl ?_
      refine z_if_eq X 42 dX11_way_23 (by decide) h (fun _ h => ?_) (fun _ h => ?_)
      · refine z_aload_n X 0 dX11_way_42 rfl rfl ?_
        refine z_get (q0 := 0) (k := 7) (ci := 11) X IW_P iw_X11 rfl qf_X11_X11_ways (by decide) dX11_way_43 rfl rfl ?_
        refine z_aload_n X 0 dX11_way_46 rfl rfl ?_
        refine z_get (q0 := 0) (k := 0) (ci := 11) X IW_P iw_X11 rfl qf_X11_X11_town (by decide) dX11_way_47 rfl rfl ?_
        refine z_iload_n X 1 dX11_way_50 rfl rfl ?_
        refine z_iload_n X 2 dX11_way_51 rfl rfl ?_
        obtain ⟨o6, e7, h⟩ := bnd_p h
        refine z_wrV (rest := []) (q0 := 3) (ci := 10) (ws' := [(q_this, .inr (11, [.ref q_town, .ref q_ahead, .ref q_kept, .int f_isKept, .ref q_past, .ref q_reason, .ref q_orders, .ref q_ways, .ref q_sheet])), (q_town, .inr (9, [.ref q_town_houses, .ref q_town_halls, .ref q_town_posts, .ref q_town_blocks, .ref q_town_kinds, .int f_town_hour, .int f_town_day, .int f_town_prankHouse, .int f_town_bells, .int f_town_echoes, .int f_town_bellPranks])), (q_town_blocks, .inl (g 0, 64, .inl a_town_blocks)), (q_ways, .inr (10, [.ref q_ways_steps, .ref q_ways_queue, .ref q_ways_lows, .ref q_ways_stops, .int f_ways_stopCount, .int f_ways_stepSum])), (q_ways_steps, .inl (g 0, 64, .inl o6.2.1)), (q_ways_queue, .inl (g 0, 64, .inl o6.2.2)), (q_ways_lows, .inl (g 0, 64, .inl a_ways_lows))]) (wr := [(q_this, .inr (11, [.ref q_town, .ref q_ahead, .ref q_kept, .int f_isKept, .ref q_past, .ref q_reason, .ref q_orders, .ref q_ways, .ref q_sheet])), (q_ways_lows, .inl (g 0, 64, .inl a_ways_lows))]) (as := [q_this, q_town, q_town_blocks, q_ways, q_ways_steps, q_ways_queue, q_ways_lows]) X k_X10_stepsTo (c_X10_stepsTo l D g q_ways q_ways_steps q_ways_queue q_ways_lows q_ways_stops q_town q_town_houses q_town_halls q_town_posts q_town_blocks q_town_kinds p1 p2 f_ways_stopCount f_ways_stepSum a_ways_steps a_ways_queue f_town_hour f_town_day f_town_prankHouse f_town_bells f_town_echoes f_town_bellPranks a_town_blocks o6 e7) ql_X11_X10_stepsTo dX11_way_52 [3, 4, 5, 1, 2] [0, 6] ⟨rfl, rfl, rfl, rfl, rfl, rfl, rfl, rfl⟩ rfl rfl rfl rfl rfl ⟨Nat.le_of_ble_eq_true rfl, Nat.le_of_ble_eq_true rfl, rfl, rfl, Nat.le_of_ble_eq_true rfl, Nat.le_of_ble_eq_true rfl⟩ (Nat.le_of_ble_eq_true rfl) ?_
        refine z_widen (k := 1) (n := 6) (Nat.le_of_ble_eq_true rfl) (Nat.le_of_ble_eq_true rfl) ?_
        refine z_sub (lv' := []) [] rfl ?_
        exact H55 o6.1 o6.2.1 o6.2.2 a_ways_lows h
      · refine z_aload_n X 0 dX11_way_26 rfl rfl ?_
        refine z_get (q0 := 0) (k := 7) (ci := 11) X IW_P iw_X11 rfl qf_X11_X11_ways (by decide) dX11_way_27 rfl rfl ?_
        refine z_aload_n X 0 dX11_way_30 rfl rfl ?_
        refine z_get (q0 := 0) (k := 0) (ci := 11) X IW_P iw_X11 rfl qf_X11_X11_town (by decide) dX11_way_31 rfl rfl ?_
        refine z_iload_n X 1 dX11_way_34 rfl rfl ?_
        refine z_iload_n X 2 dX11_way_35 rfl rfl ?_
        obtain ⟨o11, e12, h⟩ := bnd_p h
        refine z_wrV (rest := []) (q0 := 3) (ci := 10) (ws' := [(q_this, .inr (11, [.ref q_town, .ref q_ahead, .ref q_kept, .int f_isKept, .ref q_past, .ref q_reason, .ref q_orders, .ref q_ways, .ref q_sheet])), (q_town, .inr (9, [.ref q_town_houses, .ref q_town_halls, .ref q_town_posts, .ref q_town_blocks, .ref q_town_kinds, .int f_town_hour, .int f_town_day, .int f_town_prankHouse, .int f_town_bells, .int f_town_echoes, .int f_town_bellPranks])), (q_town_blocks, .inl (g 0, 64, .inl a_town_blocks)), (q_ways, .inr (10, [.ref q_ways_steps, .ref q_ways_queue, .ref q_ways_lows, .ref q_ways_stops, .int f_ways_stopCount, .int f_ways_stepSum])), (q_ways_steps, .inl (g 0, 64, .inl a_ways_steps)), (q_ways_queue, .inl (g 0, 64, .inl a_ways_queue)), (q_ways_lows, .inl (g 0, 64, .inl o11.2))]) (wr := [(q_this, .inr (11, [.ref q_town, .ref q_ahead, .ref q_kept, .int f_isKept, .ref q_past, .ref q_reason, .ref q_orders, .ref q_ways, .ref q_sheet])), (q_ways_steps, .inl (g 0, 64, .inl a_ways_steps)), (q_ways_queue, .inl (g 0, 64, .inl a_ways_queue))]) (as := [q_this, q_town, q_town_blocks, q_ways, q_ways_steps, q_ways_queue, q_ways_lows]) X k_X10_lowestTo (c_X10_lowestTo l D g q_ways q_ways_steps q_ways_queue q_ways_lows q_ways_stops q_town q_town_houses q_town_halls q_town_posts q_town_blocks q_town_kinds p1 p2 f_ways_stopCount f_ways_stepSum a_ways_lows f_town_hour f_town_day f_town_prankHouse f_town_bells f_town_echoes f_town_bellPranks a_town_blocks o11 e12) ql_X11_X10_lowestTo dX11_way_36 [3, 6, 1, 2] [0, 4, 5] ⟨rfl, rfl, rfl, rfl, rfl, rfl, rfl, rfl⟩ rfl rfl rfl rfl rfl ⟨Nat.le_of_ble_eq_true rfl, Nat.le_of_ble_eq_true rfl, rfl, rfl, Nat.le_of_ble_eq_true rfl, Nat.le_of_ble_eq_true rfl⟩ (Nat.le_of_ble_eq_true rfl) ?_
        refine z_goto X 55 dX11_way_39 (by decide) ?_
        refine z_widen (k := 1) (n := 6) (Nat.le_of_ble_eq_true rfl) (Nat.le_of_ble_eq_true rfl) ?_
        refine z_sub (lv' := []) [] rfl ?_
        exact H55 o11.1 a_ways_steps a_ways_queue o11.2 h
    · have h := brn_f h x5
      cases h
      exact zt_out (lv := [(0, .ref q_this), (1, .int p1), (2, .int p2), (3, .int p3)]) X hno hQ x5 (Nat.le_of_ble_eq_true rfl) (Nat.le_of_ble_eq_true rfl)
  have H18 : ∀ (a_ways_steps : Nat → Int32) (a_ways_queue : Nat → Int32) (a_ways_lows : Nat → Int32), J_X11_way_18 p1 p2 p3 a_town_blocks a_ways_steps a_ways_queue a_ways_lows = some o → Z p l e { frames := 8, cells := 2, slots := 12, locals := 140 } s m args below meth c Q 5 0 0 (IW D A s [(q_this, .inr (11, [.ref q_town, .ref q_ahead, .ref q_kept, .int f_isKept, .ref q_past, .ref q_reason, .ref q_orders, .ref q_ways, .ref q_sheet])), (q_town, .inr (9, [.ref q_town_houses, .ref q_town_halls, .ref q_town_posts, .ref q_town_blocks, .ref q_town_kinds, .int f_town_hour, .int f_town_day, .int f_town_prankHouse, .int f_town_bells, .int f_town_echoes, .int f_town_bellPranks])), (q_town_blocks, .inl (g 0, 64, .inl a_town_blocks)), (q_ways, .inr (10, [.ref q_ways_steps, .ref q_ways_queue, .ref q_ways_lows, .ref q_ways_stops, .int f_ways_stopCount, .int f_ways_stepSum])), (q_ways_steps, .inl (g 0, 64, .inl a_ways_steps)), (q_ways_queue, .inl (g 0, 64, .inl a_ways_queue)), (q_ways_lows, .inl (g 0, 64, .inl a_ways_lows))]) 18 [(0, .ref q_this), (1, .int p1), (2, .int p2), (3, .int p3)] [] := by
    intro a_ways_steps a_ways_queue a_ways_lows h
    refine z_iconst X (0 : Int32) dX11_way_18 (by decide) ?_
    refine z_widen (k := 0) (n := 0) (Nat.le_of_ble_eq_true rfl) (Nat.le_of_ble_eq_true rfl) ?_
    exact H19 (0 : Int32) a_ways_steps a_ways_queue a_ways_lows h
  refine z_iload_n X 1 dX11_way_0 rfl rfl ?_
  obtain ⟨o1, e2, h⟩ := bnd_p h
  refine z_rdS (rest := []) X IW_P k_X0_isCell (c_X0_isCell l D g p1 o1 e2) ql_X11_X0_isCell dX11_way_1 [] rfl rfl rfl ⟨Nat.le_of_ble_eq_true rfl, Nat.le_of_ble_eq_true rfl, rfl, rfl, Nat.le_of_ble_eq_true rfl, Nat.le_of_ble_eq_true rfl⟩ (Nat.le_of_ble_eq_true rfl) ?_
  refine z_if_eq X 18 dX11_way_4 (by decide) h (fun _ h => ?_) (fun _ h => ?_)
  · refine z_widen (k := 0) (n := 0) (Nat.le_of_ble_eq_true rfl) (Nat.le_of_ble_eq_true rfl) ?_
    exact H18 a_ways_steps a_ways_queue a_ways_lows h
  · refine z_iload_n X 2 dX11_way_7 rfl rfl ?_
    obtain ⟨o13, e14, h⟩ := bnd_p h
    refine z_rdS (rest := []) X IW_P k_X0_isCell (c_X0_isCell l D g p2 o13 e14) ql_X11_X0_isCell dX11_way_8 [] rfl rfl rfl ⟨Nat.le_of_ble_eq_true rfl, Nat.le_of_ble_eq_true rfl, rfl, rfl, Nat.le_of_ble_eq_true rfl, Nat.le_of_ble_eq_true rfl⟩ (Nat.le_of_ble_eq_true rfl) ?_
    refine z_if_eq X 18 dX11_way_11 (by decide) h (fun _ h => ?_) (fun _ h => ?_)
    · refine z_widen (k := 0) (n := 0) (Nat.le_of_ble_eq_true rfl) (Nat.le_of_ble_eq_true rfl) ?_
      exact H18 a_ways_steps a_ways_queue a_ways_lows h
    · refine z_iconst X (1 : Int32) dX11_way_14 (by decide) ?_
      refine z_goto X 19 dX11_way_15 (by decide) ?_
      refine z_widen (k := 0) (n := 0) (Nat.le_of_ble_eq_true rfl) (Nat.le_of_ble_eq_true rfl) ?_
      exact H19 (1 : Int32) a_ways_steps a_ways_queue a_ways_lows h
