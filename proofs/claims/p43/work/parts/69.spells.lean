def J_L_spells_57 (n_tx : Nat) (f_tx : Nat → Int32) (p1 : Int32) (x : XVal) (x3 : Int32) : Option (Int32) :=
  brn (x3 = 0) (some ((0 : Int32))) (bnd (F_L_character p1 x) (fun o1 => brn (o1 = ((-11) : Int32)) (some ((1 : Int32))) (some ((0 : Int32)))))

def J_L_spells_50 (n_tx : Nat) (f_tx : Nat → Int32) (p1 : Int32) (x : XVal) (r17 : Int32 → Int32 → Option (Int32)) (t0 : Int32) (x4 : Int32) : Option (Int32) :=
  r17 t0 (x4 + 1)

def L_L_spells_17 (n_tx : Nat) (f_tx : Nat → Int32) (p1 : Int32) (x : XVal) : Nat → Int32 → Int32 → Option (Int32)
  | 0, _, _ => none
  | _n + 1, x3, x4 =>
    brn ((Int32.ofNat n_tx) ≤ x4) (J_L_spells_57 n_tx f_tx p1 x x3) (brn (x3 = 0) (J_L_spells_57 n_tx f_tx p1 x x3) (bnd (F_L_character x4 x) (fun o4 => grd (¬ x4 < 0) (grd (x4 < Int32.ofNat n_tx) (grd (inb x4 n_tx) (grd (vp_nar .char ((((f_tx x4.toNatClampNeg) &&& (255 : Int32)).toUInt32 % 65536).toInt32) = ((((f_tx x4.toNatClampNeg) &&& (255 : Int32)).toUInt32 % 65536).toInt32)) (brn (o4 = ((((f_tx x4.toNatClampNeg) &&& (255 : Int32)).toUInt32 % 65536).toInt32)) (J_L_spells_50 n_tx f_tx p1 x (L_L_spells_17 n_tx f_tx p1 x _n) (1 : Int32) x4) (J_L_spells_50 n_tx f_tx p1 x (L_L_spells_17 n_tx f_tx p1 x _n) (0 : Int32) x4))))))))

def J_L_spells_13 (n_tx : Nat) (f_tx : Nat → Int32) (p1 : Int32) (x : XVal) (t0 : Int32) : Option (Int32) :=
  L_L_spells_17 n_tx f_tx p1 x 22 t0 (0 : Int32)

def F_L_spells (n_tx : Nat) (f_tx : Nat → Int32) (p1 : Int32) (x : XVal) : Option (Int32) :=
  brn (p1 = (Int32.ofNat n_tx)) (J_L_spells_13 n_tx f_tx p1 x (1 : Int32)) (J_L_spells_13 n_tx f_tx p1 x (0 : Int32))

theorem dL_spells_0 : decode cL_spells 0 = .ok (.iload_n 1, 1) := by decide +kernel
theorem dL_spells_1 : decode cL_spells 1 = .ok (.aload_n 2, 1) := by decide +kernel
theorem dL_spells_2 : decode cL_spells 2 = .ok (.invokevirtual 127, 3) := by decide +kernel
theorem dL_spells_5 : decode cL_spells 5 = .ok (.if_icmp .ne 7, 3) := by decide +kernel
theorem dL_spells_8 : decode cL_spells 8 = .ok (.iconst 1, 1) := by decide +kernel
theorem dL_spells_9 : decode cL_spells 9 = .ok (.goto 4, 3) := by decide +kernel
theorem dL_spells_12 : decode cL_spells 12 = .ok (.iconst 0, 1) := by decide +kernel
theorem dL_spells_13 : decode cL_spells 13 = .ok (.istore_n 3, 1) := by decide +kernel
theorem dL_spells_14 : decode cL_spells 14 = .ok (.iconst 0, 1) := by decide +kernel
theorem dL_spells_15 : decode cL_spells 15 = .ok (.istore 4, 2) := by decide +kernel
theorem dL_spells_17 : decode cL_spells 17 = .ok (.iload 4, 2) := by decide +kernel
theorem dL_spells_19 : decode cL_spells 19 = .ok (.aload_n 2, 1) := by decide +kernel
theorem dL_spells_20 : decode cL_spells 20 = .ok (.invokevirtual 127, 3) := by decide +kernel
theorem dL_spells_23 : decode cL_spells 23 = .ok (.if_icmp .ge 34, 3) := by decide +kernel
theorem dL_spells_26 : decode cL_spells 26 = .ok (.iload_n 3, 1) := by decide +kernel
theorem dL_spells_27 : decode cL_spells 27 = .ok (.ifCond .eq 30, 3) := by decide +kernel
theorem dL_spells_30 : decode cL_spells 30 = .ok (.aload_n 0, 1) := by decide +kernel
theorem dL_spells_31 : decode cL_spells 31 = .ok (.iload 4, 2) := by decide +kernel
theorem dL_spells_33 : decode cL_spells 33 = .ok (.invokestatic 274, 3) := by decide +kernel
theorem dL_spells_36 : decode cL_spells 36 = .ok (.aload_n 2, 1) := by decide +kernel
theorem dL_spells_37 : decode cL_spells 37 = .ok (.iload 4, 2) := by decide +kernel
theorem dL_spells_39 : decode cL_spells 39 = .ok (.invokevirtual 132, 3) := by decide +kernel
theorem dL_spells_42 : decode cL_spells 42 = .ok (.if_icmp .ne 7, 3) := by decide +kernel
theorem dL_spells_45 : decode cL_spells 45 = .ok (.iconst 1, 1) := by decide +kernel
theorem dL_spells_46 : decode cL_spells 46 = .ok (.goto 4, 3) := by decide +kernel
theorem dL_spells_49 : decode cL_spells 49 = .ok (.iconst 0, 1) := by decide +kernel
theorem dL_spells_50 : decode cL_spells 50 = .ok (.istore_n 3, 1) := by decide +kernel
theorem dL_spells_51 : decode cL_spells 51 = .ok (.iinc 4 1, 3) := by decide +kernel
theorem dL_spells_54 : decode cL_spells 54 = .ok (.goto (-37), 3) := by decide +kernel
theorem dL_spells_57 : decode cL_spells 57 = .ok (.iload_n 3, 1) := by decide +kernel
theorem dL_spells_58 : decode cL_spells 58 = .ok (.ifCond .eq 17, 3) := by decide +kernel
theorem dL_spells_61 : decode cL_spells 61 = .ok (.aload_n 0, 1) := by decide +kernel
theorem dL_spells_62 : decode cL_spells 62 = .ok (.iload_n 1, 1) := by decide +kernel
theorem dL_spells_63 : decode cL_spells 63 = .ok (.invokestatic 274, 3) := by decide +kernel
theorem dL_spells_66 : decode cL_spells 66 = .ok (.bipush (-11), 2) := by decide +kernel
theorem dL_spells_68 : decode cL_spells 68 = .ok (.if_icmp .ne 7, 3) := by decide +kernel
theorem dL_spells_71 : decode cL_spells 71 = .ok (.iconst 1, 1) := by decide +kernel
theorem dL_spells_72 : decode cL_spells 72 = .ok (.goto 4, 3) := by decide +kernel
theorem dL_spells_75 : decode cL_spells 75 = .ok (.iconst 0, 1) := by decide +kernel
theorem dL_spells_76 : decode cL_spells 76 = .ok (.ireturn, 1) := by decide +kernel
theorem k_L_spells : cardS yL_spells (Cond.code yL_spells cL_spells 5 (some .boolean)) 3 := ⟨qs_L_spells, qc_L_spells, qn_L, by decide +kernel, by decide +kernel, by decide +kernel⟩
set_option maxHeartbeats 4000000 in
set_option maxRecDepth 100000 in
theorem c_L_spells (l : Launch) (hfl : l.stackTraces = false) (ev : LEv) (D : va_G) (g : Nat → ClassId) (ad : Nat → Nat → Nat) (ax : Nat → Nat) (q_tx v_tx n_tx : Nat) (f_tx : Nat → Int32) (p1 : Int32) (x : XVal) (o : Int32) (h : F_L_spells n_tx f_tx p1 x = some o) : MG l yL_spells (Cond.code yL_spells cL_spells 5 (some .boolean)) { frames := 10, cells := 23, slots := 138, locals := 200 } (KT ev q_tx v_tx n_tx f_tx) D g [.ref (ax 0), .int p1, .ref q_tx] ([] ++ OW g ax ad x) (some (.int o)) ([] ++ OW g ax ad x) 23 138 := by
  refine z_g_start (by decide) (Nat.le_of_ble_eq_true rfl) ?_
  intro p e s m args below meth c Q A X hr hK hA hQ
  have hKT := hK
  have hK := hKT.1
  refine z_lv (lv' := [(0, .ref (ax 0)), (1, .int p1), (2, .ref q_tx)]) rfl ?_
  have H57 : ∀ (x3 : Int32), J_L_spells_57 n_tx f_tx p1 x x3 = some o → Z p l e { frames := 10, cells := 23, slots := 138, locals := 200 } s m args below meth c Q 5 22 132 (IW D A s ([] ++ OW g ax ad x)) 57 [(0, .ref (ax 0)), (1, .int p1), (3, .int x3)] [] := by
    intro x3 h
    refine z_iload_n X 2 dL_spells_57 rfl rfl ?_
    refine z_if_eq X 75 dL_spells_58 (by decide) h (fun _ h => ?_) (fun _ h => ?_)
    · refine z_iconst X (0 : Int32) dL_spells_75 (by decide) ?_
      cases h
      exact z_lzret X hQ (by first | exact Nat.le_of_ble_eq_true rfl | omega) (by first | exact Nat.le_of_ble_eq_true rfl | omega) hr dL_spells_76 rfl
    · refine z_aload_n X 0 dL_spells_61 rfl rfl ?_
      refine z_iload_n X 1 dL_spells_62 rfl rfl ?_
      obtain ⟨o1, e2, h⟩ := bnd_p h
      have f3 := bk_appP (X := OW g ax ad x) (X' := OW g ax ad x) (perm_of (n := 0) (E := []) (wc := []) (wr := []) [] [] rfl rfl rfl (by decide +kernel)) (perm_of (n := 0) (E := []) (wc := []) (wr := []) [] [] rfl rfl rfl (by decide +kernel)) rfl OW_fst
      refine z_gSH (rest := []) (ws' := ([] ++ OW g ax ad x)) X (KF_ok ev) (kc_of (KF_ok ev) (fun _ _ _ q => q) hK hA f3.1) hA k_L_character (c_L_character l hfl ev D g ad ax p1 x o1 e2) ql_L_L_character dL_spells_63 f3.1 f3.2 rfl rfl ⟨Nat.le_of_ble_eq_true rfl, Nat.le_of_ble_eq_true rfl, rfl, rfl, (Nat.le_trans (m := 23) (by first | exact Nat.le_of_ble_eq_true rfl | omega) (Nat.le_of_ble_eq_true rfl)), (Nat.le_trans (m := 138) (by first | exact Nat.le_of_ble_eq_true rfl | omega) (Nat.le_of_ble_eq_true rfl))⟩ (Nat.le_of_ble_eq_true rfl) ?_
      refine z_bipush X ((-11) : Int32) dL_spells_66 (by decide) ?_
      refine z_icmp_ne X 75 dL_spells_68 (by decide) h (fun _ h => ?_) (fun _ h => ?_)
      · refine z_iconst X (1 : Int32) dL_spells_71 (by decide) ?_
        refine z_goto X 76 dL_spells_72 (by decide) ?_
        cases h
        exact z_lzret X hQ (by first | exact Nat.le_of_ble_eq_true rfl | omega) (by first | exact Nat.le_of_ble_eq_true rfl | omega) hr dL_spells_76 rfl
      · refine z_iconst X (0 : Int32) dL_spells_75 (by decide) ?_
        cases h
        exact z_lzret X hQ (by first | exact Nat.le_of_ble_eq_true rfl | omega) (by first | exact Nat.le_of_ble_eq_true rfl | omega) hr dL_spells_76 rfl
  have H17 : ∀ (n : Nat) (x3 : Int32) (x4 : Int32) (c17 s17 : Nat), c17 + 1 * n ≤ 22 → s17 + 6 * n ≤ 132 → L_L_spells_17 n_tx f_tx p1 x n x3 x4 = some o → Z p l e { frames := 10, cells := 23, slots := 138, locals := 200 } s m args below meth c Q 5 c17 s17 (IW D A s ([] ++ OW g ax ad x)) 17 [(0, .ref (ax 0)), (1, .int p1), (2, .ref q_tx), (3, .int x3), (4, .int x4)] [] := by
    intro n
    induction n with
    | zero => intro x3 x4 c17 s17 _ _ h; cases h
    | succ n17 ih17 =>
      intro x3 x4 c17 s17 hc17 hs17 h
      have H50 : ∀ (t0 : Int32) (x4 : Int32), J_L_spells_50 n_tx f_tx p1 x (L_L_spells_17 n_tx f_tx p1 x n17) t0 x4 = some o → Z p l e { frames := 10, cells := 23, slots := 138, locals := 200 } s m args below meth c Q 5 (c17 + 1) (s17 + 6) (IW D A s ([] ++ OW g ax ad x)) 50 [(0, .ref (ax 0)), (1, .int p1), (2, .ref q_tx), (4, .int x4)] [.int t0] := by
        intro t0 x4 h
        refine z_istore_n X [(3, .int t0), (0, .ref (ax 0)), (1, .int p1), (2, .ref q_tx), (4, .int x4)] dL_spells_50 rfl (by decide) rfl ?_
        refine z_iinc X 4 [(4, .int (x4 + 1)), (3, .int t0), (0, .ref (ax 0)), (1, .int p1), (2, .ref q_tx)] dL_spells_51 rfl rfl (by decide) rfl ?_
        refine z_goto X 17 dL_spells_54 (by decide) ?_
        refine z_sub (lv' := [(0, .ref (ax 0)), (1, .int p1), (2, .ref q_tx), (3, .int t0), (4, .int (x4 + 1))]) [2, 3, 4, 1, 0] rfl ?_
        exact ih17 t0 (x4 + 1) _ _ (by omega) (by omega) h
      refine z_iload X 4 dL_spells_17 rfl ?_
      refine z_aload_n X 2 dL_spells_19 rfl rfl ?_
      refine z_kV (rest := [.int x4]) X (KT_ok ev q_tx v_tx n_tx f_tx) IW_S hKT k_J0_length_8abf5 (t_length l ev D g q_tx v_tx n_tx f_tx) ql_L_J0_length_8abf5 dL_spells_20 hKT.2.1 rfl rfl rfl ⟨Nat.le_of_ble_eq_true rfl, Nat.le_of_ble_eq_true rfl, rfl, rfl, (Nat.le_trans (m := 23) (by first | exact Nat.le_of_ble_eq_true rfl | omega) (Nat.le_of_ble_eq_true rfl)), (Nat.le_trans (m := 138) (by first | exact Nat.le_of_ble_eq_true rfl | omega) (Nat.le_of_ble_eq_true rfl))⟩ (Nat.le_of_ble_eq_true rfl) ?_
      refine z_icmp_ge X 57 dL_spells_23 (by decide) h (fun _ h => ?_) (fun _ h => ?_)
      · refine z_widen (k := 22) (n := 132) (by omega) (by omega) ?_
        refine z_widen (k := 22) (n := 132) (by first | exact Nat.le_of_ble_eq_true rfl | omega) (by first | exact Nat.le_of_ble_eq_true rfl | omega) ?_
        refine z_sub (lv' := [(0, .ref (ax 0)), (1, .int p1), (3, .int x3)]) [0, 1, 3] rfl ?_
        exact H57 x3 h
      · refine z_iload_n X 3 dL_spells_26 rfl rfl ?_
        refine z_if_eq X 57 dL_spells_27 (by decide) h (fun _ h => ?_) (fun _ h => ?_)
        · refine z_widen (k := 22) (n := 132) (by omega) (by omega) ?_
          refine z_widen (k := 22) (n := 132) (by first | exact Nat.le_of_ble_eq_true rfl | omega) (by first | exact Nat.le_of_ble_eq_true rfl | omega) ?_
          refine z_sub (lv' := [(0, .ref (ax 0)), (1, .int p1), (3, .int x3)]) [0, 1, 3] rfl ?_
          exact H57 x3 h
        · refine z_aload_n X 0 dL_spells_30 rfl rfl ?_
          refine z_iload X 4 dL_spells_31 rfl ?_
          obtain ⟨o4, e5, h⟩ := bnd_p h
          have f6 := bk_appP (X := OW g ax ad x) (X' := OW g ax ad x) (perm_of (n := 0) (E := []) (wc := []) (wr := []) [] [] rfl rfl rfl (by decide +kernel)) (perm_of (n := 0) (E := []) (wc := []) (wr := []) [] [] rfl rfl rfl (by decide +kernel)) rfl OW_fst
          refine z_gSH (rest := []) (ws' := ([] ++ OW g ax ad x)) X (KF_ok ev) (kc_of (KF_ok ev) (fun _ _ _ q => q) hK hA f6.1) hA k_L_character (c_L_character l hfl ev D g ad ax x4 x o4 e5) ql_L_L_character dL_spells_33 f6.1 f6.2 rfl rfl ⟨Nat.le_of_ble_eq_true rfl, Nat.le_of_ble_eq_true rfl, rfl, rfl, (Nat.le_trans (m := 23) (by first | exact Nat.le_of_ble_eq_true rfl | omega) (Nat.le_of_ble_eq_true rfl)), (Nat.le_trans (m := 138) (by first | exact Nat.le_of_ble_eq_true rfl | omega) (Nat.le_of_ble_eq_true rfl))⟩ (Nat.le_of_ble_eq_true rfl) ?_
          refine z_aload_n X 2 dL_spells_36 rfl rfl ?_
          refine z_iload X 4 dL_spells_37 rfl ?_
          obtain ⟨e7, h⟩ := grd_p h
          obtain ⟨e8, h⟩ := grd_p h
          obtain ⟨e9, h⟩ := grd_p h
          obtain ⟨e10, h⟩ := grd_p h
          refine z_kV (rest := [.int o4]) X (KT_ok ev q_tx v_tx n_tx f_tx) IW_S hKT k_J0_charAt_5068e (t_charAt l ev D g q_tx v_tx n_tx f_tx x4 e7 e8 e9 e10) ql_L_J0_charAt_5068e dL_spells_39 hKT.2.1 rfl rfl rfl ⟨Nat.le_of_ble_eq_true rfl, Nat.le_of_ble_eq_true rfl, rfl, rfl, (Nat.le_trans (m := 23) (by first | exact Nat.le_of_ble_eq_true rfl | omega) (Nat.le_of_ble_eq_true rfl)), (Nat.le_trans (m := 138) (by first | exact Nat.le_of_ble_eq_true rfl | omega) (Nat.le_of_ble_eq_true rfl))⟩ (Nat.le_of_ble_eq_true rfl) ?_
          refine z_icmp_ne X 49 dL_spells_42 (by decide) h (fun _ h => ?_) (fun _ h => ?_)
          · refine z_iconst X (1 : Int32) dL_spells_45 (by decide) ?_
            refine z_goto X 50 dL_spells_46 (by decide) ?_
            refine z_widen (k := (c17 + 1)) (n := (s17 + 6)) (by first | exact Nat.le_of_ble_eq_true rfl | omega) (by first | exact Nat.le_of_ble_eq_true rfl | omega) ?_
            refine z_sub (lv' := [(0, .ref (ax 0)), (1, .int p1), (2, .ref q_tx), (4, .int x4)]) [0, 1, 2, 4] rfl ?_
            exact H50 (1 : Int32) x4 h
          · refine z_iconst X (0 : Int32) dL_spells_49 (by decide) ?_
            refine z_widen (k := (c17 + 1)) (n := (s17 + 6)) (by first | exact Nat.le_of_ble_eq_true rfl | omega) (by first | exact Nat.le_of_ble_eq_true rfl | omega) ?_
            refine z_sub (lv' := [(0, .ref (ax 0)), (1, .int p1), (2, .ref q_tx), (4, .int x4)]) [0, 1, 2, 4] rfl ?_
            exact H50 (0 : Int32) x4 h
  have H13 : ∀ (t0 : Int32), J_L_spells_13 n_tx f_tx p1 x t0 = some o → Z p l e { frames := 10, cells := 23, slots := 138, locals := 200 } s m args below meth c Q 5 0 0 (IW D A s ([] ++ OW g ax ad x)) 13 [(0, .ref (ax 0)), (1, .int p1), (2, .ref q_tx)] [.int t0] := by
    intro t0 h
    refine z_istore_n X [(3, .int t0), (0, .ref (ax 0)), (1, .int p1), (2, .ref q_tx)] dL_spells_13 rfl (by decide) rfl ?_
    refine z_iconst X (0 : Int32) dL_spells_14 (by decide) ?_
    refine z_istore X [(4, .int (0 : Int32)), (3, .int t0), (0, .ref (ax 0)), (1, .int p1), (2, .ref q_tx)] dL_spells_15 (by decide) rfl ?_
    refine z_sub (lv' := [(0, .ref (ax 0)), (1, .int p1), (2, .ref q_tx), (3, .int t0), (4, .int (0 : Int32))]) [2, 3, 4, 1, 0] rfl ?_
    exact H17 22 t0 (0 : Int32) _ _ (by first | exact Nat.le_of_ble_eq_true rfl | omega) (by first | exact Nat.le_of_ble_eq_true rfl | omega) h
  refine z_iload_n X 1 dL_spells_0 rfl rfl ?_
  refine z_aload_n X 2 dL_spells_1 rfl rfl ?_
  refine z_kV (rest := [.int p1]) X (KT_ok ev q_tx v_tx n_tx f_tx) IW_S hKT k_J0_length_8abf5 (t_length l ev D g q_tx v_tx n_tx f_tx) ql_L_J0_length_8abf5 dL_spells_2 hKT.2.1 rfl rfl rfl ⟨Nat.le_of_ble_eq_true rfl, Nat.le_of_ble_eq_true rfl, rfl, rfl, (Nat.le_trans (m := 23) (by first | exact Nat.le_of_ble_eq_true rfl | omega) (Nat.le_of_ble_eq_true rfl)), (Nat.le_trans (m := 138) (by first | exact Nat.le_of_ble_eq_true rfl | omega) (Nat.le_of_ble_eq_true rfl))⟩ (Nat.le_of_ble_eq_true rfl) ?_
  refine z_icmp_ne X 12 dL_spells_5 (by decide) h (fun _ h => ?_) (fun _ h => ?_)
  · refine z_iconst X (1 : Int32) dL_spells_8 (by decide) ?_
    refine z_goto X 13 dL_spells_9 (by decide) ?_
    refine z_widen (k := 0) (n := 0) (by first | exact Nat.le_of_ble_eq_true rfl | omega) (by first | exact Nat.le_of_ble_eq_true rfl | omega) ?_
    exact H13 (1 : Int32) h
  · refine z_iconst X (0 : Int32) dL_spells_12 (by decide) ?_
    refine z_widen (k := 0) (n := 0) (by first | exact Nat.le_of_ble_eq_true rfl | omega) (by first | exact Nat.le_of_ble_eq_true rfl | omega) ?_
    exact H13 (0 : Int32) h
def L_L_run_2 (n_tx : Nat) (f_tx : Nat → Int32) : Nat → Int32 → (XVal) → Option (Int32 × XVal)
  | 0, _, _ => none
  | _n + 1, x2, x =>
    brn ((Int32.ofNat n_tx) ≤ x2) (bnd (F_L_runs x) (fun o1 => some (o1.1, o1.2))) (grd (¬ x2 < 0) (grd (x2 < Int32.ofNat n_tx) (grd (inb x2 n_tx) (grd (vp_nar .char ((((f_tx x2.toNatClampNeg) &&& (255 : Int32)).toUInt32 % 65536).toInt32) = ((((f_tx x2.toNatClampNeg) &&& (255 : Int32)).toUInt32 % 65536).toInt32)) (bnd (F_L_append ((((f_tx x2.toNatClampNeg) &&& (255 : Int32)).toUInt32 % 65536).toInt32) x) (fun o8 => brn (o8.1 = (x2 + (1 : Int32))) (L_L_run_2 n_tx f_tx _n (x2 + 1) o8.2) (some (((-9) : Int32), o8.2))))))))

def F_L_run (n_tx : Nat) (f_tx : Nat → Int32) (x : XVal) : Option (Int32 × XVal) :=
  L_L_run_2 n_tx f_tx 26 (0 : Int32) x

theorem dL_run_0 : decode cL_run 0 = .ok (.iconst 0, 1) := by decide +kernel
theorem dL_run_1 : decode cL_run 1 = .ok (.istore_n 2, 1) := by decide +kernel
theorem dL_run_2 : decode cL_run 2 = .ok (.iload_n 2, 1) := by decide +kernel
theorem dL_run_3 : decode cL_run 3 = .ok (.aload_n 1, 1) := by decide +kernel
theorem dL_run_4 : decode cL_run 4 = .ok (.invokevirtual 127, 3) := by decide +kernel
theorem dL_run_7 : decode cL_run 7 = .ok (.if_icmp .ge 27, 3) := by decide +kernel
theorem dL_run_10 : decode cL_run 10 = .ok (.aload_n 0, 1) := by decide +kernel
theorem dL_run_11 : decode cL_run 11 = .ok (.aload_n 1, 1) := by decide +kernel
theorem dL_run_12 : decode cL_run 12 = .ok (.iload_n 2, 1) := by decide +kernel
theorem dL_run_13 : decode cL_run 13 = .ok (.invokevirtual 132, 3) := by decide +kernel
theorem dL_run_16 : decode cL_run 16 = .ok (.invokestatic 135, 3) := by decide +kernel
theorem dL_run_19 : decode cL_run 19 = .ok (.iload_n 2, 1) := by decide +kernel
theorem dL_run_20 : decode cL_run 20 = .ok (.iconst 1, 1) := by decide +kernel
theorem dL_run_21 : decode cL_run 21 = .ok (.iadd, 1) := by decide +kernel
theorem dL_run_22 : decode cL_run 22 = .ok (.if_icmp .eq 6, 3) := by decide +kernel
theorem dL_run_25 : decode cL_run 25 = .ok (.bipush (-9), 2) := by decide +kernel
theorem dL_run_27 : decode cL_run 27 = .ok (.ireturn, 1) := by decide +kernel
theorem dL_run_28 : decode cL_run 28 = .ok (.iinc 2 1, 3) := by decide +kernel
theorem dL_run_31 : decode cL_run 31 = .ok (.goto (-29), 3) := by decide +kernel
theorem dL_run_34 : decode cL_run 34 = .ok (.aload_n 0, 1) := by decide +kernel
theorem dL_run_35 : decode cL_run 35 = .ok (.invokestatic 140, 3) := by decide +kernel
theorem dL_run_38 : decode cL_run 38 = .ok (.ireturn, 1) := by decide +kernel
theorem k_L_run : cardS yL_run (Cond.code yL_run cL_run 3 (some .int)) 2 := ⟨qs_L_run, qc_L_run, qn_L, by decide +kernel, by decide +kernel, by decide +kernel⟩
set_option maxHeartbeats 4000000 in
set_option maxRecDepth 100000 in
theorem c_L_run (l : Launch) (hfl : l.stackTraces = false) (ev : LEv) (D : va_G) (g : Nat → ClassId) (ad : Nat → Nat → Nat) (ax : Nat → Nat) (q_tx v_tx n_tx : Nat) (f_tx : Nat → Int32) (x : XVal) (o : Int32 × XVal) (h : F_L_run n_tx f_tx x = some o) : MG l yL_run (Cond.code yL_run cL_run 3 (some .int)) { frames := 11, cells := 30, slots := 180, locals := 203 } (KT ev q_tx v_tx n_tx f_tx) D g [.ref (ax 0), .ref q_tx] ([] ++ OW g ax ad x) (some (.int o.1)) ([] ++ OW g ax ad o.2) 30 180 := by
  refine z_g_start (by decide) (Nat.le_of_ble_eq_true rfl) ?_
  intro p e s m args below meth c Q A X hr hK hA hQ
  have hKT := hK
  have hK := hKT.1
  refine z_lv (lv' := [(0, .ref (ax 0)), (1, .ref q_tx)]) rfl ?_
  have H2 : ∀ (n : Nat) (x2 : Int32) (x : XVal) (c2 s2 : Nat), c2 + 1 * n ≤ 26 → s2 + 6 * n ≤ 156 → L_L_run_2 n_tx f_tx n x2 x = some o → Z p l e { frames := 11, cells := 30, slots := 180, locals := 203 } s m args below meth c Q 3 c2 s2 (IW D A s ([] ++ OW g ax ad x)) 2 [(0, .ref (ax 0)), (1, .ref q_tx), (2, .int x2)] [] := by
    intro n
    induction n with
    | zero => intro x2 x c2 s2 _ _ h; cases h
    | succ n2 ih2 =>
      intro x2 x c2 s2 hc2 hs2 h
      refine z_iload_n X 2 dL_run_2 rfl rfl ?_
      refine z_aload_n X 1 dL_run_3 rfl rfl ?_
      refine z_kV (rest := [.int x2]) X (KT_ok ev q_tx v_tx n_tx f_tx) IW_S hKT k_J0_length_8abf5 (t_length l ev D g q_tx v_tx n_tx f_tx) ql_L_J0_length_8abf5 dL_run_4 hKT.2.1 rfl rfl rfl ⟨Nat.le_of_ble_eq_true rfl, Nat.le_of_ble_eq_true rfl, rfl, rfl, (Nat.le_trans (m := 30) (by first | exact Nat.le_of_ble_eq_true rfl | omega) (Nat.le_of_ble_eq_true rfl)), (Nat.le_trans (m := 180) (by first | exact Nat.le_of_ble_eq_true rfl | omega) (Nat.le_of_ble_eq_true rfl))⟩ (Nat.le_of_ble_eq_true rfl) ?_
      refine z_icmp_ge X 34 dL_run_7 (by decide) h (fun _ h => ?_) (fun _ h => ?_)
      · refine z_widen (k := 26) (n := 156) (by omega) (by omega) ?_
        refine z_aload_n X 0 dL_run_34 rfl rfl ?_
        obtain ⟨o1, e2, h⟩ := bnd_p h
        have f3 := bk_appP (X := OW g ax ad x) (X' := OW g ax ad o1.2) (perm_of (n := 0) (E := []) (wc := []) (wr := []) [] [] rfl rfl rfl (by decide +kernel)) (perm_of (n := 0) (E := []) (wc := []) (wr := []) [] [] rfl rfl rfl (by decide +kernel)) rfl OW_fst
        refine z_gSH (rest := []) (ws' := ([] ++ OW g ax ad o1.2)) X (KF_ok ev) (kc_of (KF_ok ev) (fun _ _ _ q => q) hK hA f3.1) hA k_L_runs (c_L_runs l hfl ev D g ad ax x o1 e2) ql_L_L_runs dL_run_35 f3.1 f3.2 rfl rfl ⟨Nat.le_of_ble_eq_true rfl, Nat.le_of_ble_eq_true rfl, rfl, rfl, (Nat.le_trans (m := 30) (by first | exact Nat.le_of_ble_eq_true rfl | omega) (Nat.le_of_ble_eq_true rfl)), (Nat.le_trans (m := 180) (by first | exact Nat.le_of_ble_eq_true rfl | omega) (Nat.le_of_ble_eq_true rfl))⟩ (Nat.le_of_ble_eq_true rfl) ?_
        cases h
        exact z_lret X hQ (by first | exact Nat.le_of_ble_eq_true rfl | omega) (by first | exact Nat.le_of_ble_eq_true rfl | omega) hr dL_run_38
      · refine z_aload_n X 0 dL_run_10 rfl rfl ?_
        refine z_aload_n X 1 dL_run_11 rfl rfl ?_
        refine z_iload_n X 2 dL_run_12 rfl rfl ?_
        obtain ⟨e4, h⟩ := grd_p h
        obtain ⟨e5, h⟩ := grd_p h
        obtain ⟨e6, h⟩ := grd_p h
        obtain ⟨e7, h⟩ := grd_p h
        refine z_kV (rest := [.ref (ax 0)]) X (KT_ok ev q_tx v_tx n_tx f_tx) IW_S hKT k_J0_charAt_5068e (t_charAt l ev D g q_tx v_tx n_tx f_tx x2 e4 e5 e6 e7) ql_L_J0_charAt_5068e dL_run_13 hKT.2.1 rfl rfl rfl ⟨Nat.le_of_ble_eq_true rfl, Nat.le_of_ble_eq_true rfl, rfl, rfl, (Nat.le_trans (m := 30) (by first | exact Nat.le_of_ble_eq_true rfl | omega) (Nat.le_of_ble_eq_true rfl)), (Nat.le_trans (m := 180) (by first | exact Nat.le_of_ble_eq_true rfl | omega) (Nat.le_of_ble_eq_true rfl))⟩ (Nat.le_of_ble_eq_true rfl) ?_
        obtain ⟨o8, e9, h⟩ := bnd_p h
        have f10 := bk_appP (X := OW g ax ad x) (X' := OW g ax ad o8.2) (perm_of (n := 0) (E := []) (wc := []) (wr := []) [] [] rfl rfl rfl (by decide +kernel)) (perm_of (n := 0) (E := []) (wc := []) (wr := []) [] [] rfl rfl rfl (by decide +kernel)) rfl OW_fst
        refine z_gSH (rest := []) (ws' := ([] ++ OW g ax ad o8.2)) X (KF_ok ev) (kc_of (KF_ok ev) (fun _ _ _ q => q) hK hA f10.1) hA k_L_append (c_L_append l hfl ev D g ad ax ((((f_tx x2.toNatClampNeg) &&& (255 : Int32)).toUInt32 % 65536).toInt32) x o8 e9) ql_L_L_append dL_run_16 f10.1 f10.2 rfl rfl ⟨Nat.le_of_ble_eq_true rfl, Nat.le_of_ble_eq_true rfl, rfl, rfl, (Nat.le_trans (m := 30) (by first | exact Nat.le_of_ble_eq_true rfl | omega) (Nat.le_of_ble_eq_true rfl)), (Nat.le_trans (m := 180) (by first | exact Nat.le_of_ble_eq_true rfl | omega) (Nat.le_of_ble_eq_true rfl))⟩ (Nat.le_of_ble_eq_true rfl) ?_
        refine z_iload_n X 2 dL_run_19 rfl rfl ?_
        refine z_iconst X (1 : Int32) dL_run_20 (by decide) ?_
        refine z_iadd X dL_run_21 ?_
        refine z_icmp_eq X 28 dL_run_22 (by decide) h (fun _ h => ?_) (fun _ h => ?_)
        · refine z_iinc X 2 [(2, .int (x2 + 1)), (0, .ref (ax 0)), (1, .ref q_tx)] dL_run_28 rfl rfl (by decide) rfl ?_
          refine z_goto X 2 dL_run_31 (by decide) ?_
          refine z_sub (lv' := [(0, .ref (ax 0)), (1, .ref q_tx), (2, .int (x2 + 1))]) [1, 2, 0] rfl ?_
          exact ih2 (x2 + 1) o8.2 _ _ (by omega) (by omega) h
        · refine z_widen (k := 26) (n := 156) (by omega) (by omega) ?_
          refine z_bipush X ((-9) : Int32) dL_run_25 (by decide) ?_
          cases h
          exact z_lret X hQ (by first | exact Nat.le_of_ble_eq_true rfl | omega) (by first | exact Nat.le_of_ble_eq_true rfl | omega) hr dL_run_27
  refine z_iconst X (0 : Int32) dL_run_0 (by decide) ?_
  refine z_istore_n X [(2, .int (0 : Int32)), (0, .ref (ax 0)), (1, .ref q_tx)] dL_run_1 rfl (by decide) rfl ?_
  refine z_sub (lv' := [(0, .ref (ax 0)), (1, .ref q_tx), (2, .int (0 : Int32))]) [1, 2, 0] rfl ?_
  exact H2 26 (0 : Int32) x _ _ (by first | exact Nat.le_of_ble_eq_true rfl | omega) (by first | exact Nat.le_of_ble_eq_true rfl | omega) h
