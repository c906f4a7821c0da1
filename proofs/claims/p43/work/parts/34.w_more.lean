def L_X3_kindOf_2 (p0 : Int32) : Nat → Int32 → Option (Int32)
  | 0, _ => none
  | _n + 1, x1 =>
    brn ((7 : Int32) ≤ x1) (some (((-1) : Int32))) (grd (inb x1 7) (brn ((sStI x1.toNatClampNeg) = p0) (some (x1)) (L_X3_kindOf_2 p0 _n (x1 + 1))))

def F_X3_kindOf (p0 : Int32) : Option (Int32) :=
  L_X3_kindOf_2 p0 100 (0 : Int32)
theorem dX3_kindOf_0 : decode cX3_kindOf 0 = .ok (.iconst 0, 1) := by decide +kernel
theorem dX3_kindOf_1 : decode cX3_kindOf 1 = .ok (.istore_n 1, 1) := by decide +kernel
theorem dX3_kindOf_2 : decode cX3_kindOf 2 = .ok (.iload_n 1, 1) := by decide +kernel
theorem dX3_kindOf_3 : decode cX3_kindOf 3 = .ok (.getstatic 69, 3) := by decide +kernel
theorem dX3_kindOf_6 : decode cX3_kindOf 6 = .ok (.arraylength, 1) := by decide +kernel
theorem dX3_kindOf_7 : decode cX3_kindOf 7 = .ok (.if_icmp .ge 20, 3) := by decide +kernel
theorem dX3_kindOf_10 : decode cX3_kindOf 10 = .ok (.getstatic 69, 3) := by decide +kernel
theorem dX3_kindOf_13 : decode cX3_kindOf 13 = .ok (.iload_n 1, 1) := by decide +kernel
theorem dX3_kindOf_14 : decode cX3_kindOf 14 = .ok (.caload, 1) := by decide +kernel
theorem dX3_kindOf_15 : decode cX3_kindOf 15 = .ok (.iload_n 0, 1) := by decide +kernel
theorem dX3_kindOf_16 : decode cX3_kindOf 16 = .ok (.if_icmp .ne 5, 3) := by decide +kernel
theorem dX3_kindOf_19 : decode cX3_kindOf 19 = .ok (.iload_n 1, 1) := by decide +kernel
theorem dX3_kindOf_20 : decode cX3_kindOf 20 = .ok (.ireturn, 1) := by decide +kernel
theorem dX3_kindOf_21 : decode cX3_kindOf 21 = .ok (.iinc 1 1, 3) := by decide +kernel
theorem dX3_kindOf_24 : decode cX3_kindOf 24 = .ok (.goto (-22), 3) := by decide +kernel
theorem dX3_kindOf_27 : decode cX3_kindOf 27 = .ok (.iconst (-1), 1) := by decide +kernel
theorem dX3_kindOf_28 : decode cX3_kindOf 28 = .ok (.ireturn, 1) := by decide +kernel
theorem k_X3_kindOf : cardS yX3_kindOf (Cond.code yX3_kindOf cX3_kindOf 2 (some .int)) 1 := ⟨qs_X3_kindOf, qc_X3_kindOf, qn_X3, by decide +kernel, by decide +kernel, by decide +kernel⟩
set_option maxHeartbeats 4000000 in
set_option maxRecDepth 100000 in
theorem c_X3_kindOf (l : Launch) (ak av : Nat → Nat) (aS : Nat) (D : va_G) (g : Nat → ClassId) (p0 : Int32) (o : Int32) (h : F_X3_kindOf p0 = some o) : ME l yX3_kindOf (Cond.code yX3_kindOf cX3_kindOf 2 (some .int)) { frames := 0, cells := 0, slots := 0, locals := 0 } ak av aS D g [.int p0] (some (.int o)) := by
  refine z_ed_start (by decide) (Nat.le_of_ble_eq_true rfl) ?_
  intro p e s m args below meth c Q X hr hE hQ
  refine z_lv (lv' := [(0, .int p0)]) rfl ?_
  have H2 : ∀ (n : Nat) (x1 : Int32), L_X3_kindOf_2 p0  n x1 = some o → Z p l e { frames := 0, cells := 0, slots := 0, locals := 0 } s m args below meth c Q 2 0 0 (IR D [] s) 2 [(0, .int p0), (1, .int x1)] [] := by
    intro n
    induction n with
    | zero => intro x1 h; cases h
    | succ n2 ih2 =>
      intro x1 h
      refine z_iload_n X 1 dX3_kindOf_2 rfl rfl ?_
      refine z_gets X IR_S hE.2.1.1.1 qf_X3_X3_STARTS dX3_kindOf_3 ?_
      refine z_tlen (v := (7 : Int32)) X IR_S hE.2.1.1.2 rfl dX3_kindOf_6 ?_
      refine z_icmp_ge X 27 dX3_kindOf_7 (by decide) h (fun _ h => ?_) (fun _ h => ?_)
      · refine z_iconst X ((-1) : Int32) dX3_kindOf_27 (by decide) ?_
        exact z_iretR X hQ hr dX3_kindOf_28 h
      · refine z_gets X IR_S hE.2.1.1.1 qf_X3_X3_STARTS dX3_kindOf_10 ?_
        refine z_iload_n X 1 dX3_kindOf_13 rfl rfl ?_
        refine z_tc (v := .int (sStI x1.toNatClampNeg)) X IR_S hE.2.1.1.2 h rfl dX3_kindOf_14 (fun h => ?_)
        refine z_iload_n X 0 dX3_kindOf_15 rfl rfl ?_
        refine z_icmp_ne X 21 dX3_kindOf_16 (by decide) h (fun _ h => ?_) (fun _ h => ?_)
        · refine z_iload_n X 1 dX3_kindOf_19 rfl rfl ?_
          exact z_iretR X hQ hr dX3_kindOf_20 h
        · refine z_iinc X 1 [(1, .int (x1 + 1)), (0, .int p0)] dX3_kindOf_21 rfl rfl (by decide) rfl ?_
          refine z_goto X 2 dX3_kindOf_24 (by decide) ?_
          refine z_sub (lv' := [(0, .int p0), (1, .int (x1 + 1))]) [1, 0] rfl ?_
          exact ih2 (x1 + 1) h
  refine z_iconst X (0 : Int32) dX3_kindOf_0 (by decide) ?_
  refine z_istore_n X [(1, .int (0 : Int32)), (0, .int p0)] dX3_kindOf_1 rfl (by decide) rfl ?_
  refine z_sub (lv' := [(0, .int p0), (1, .int (0 : Int32))]) [1, 0] rfl ?_
  exact H2 100 (0 : Int32) h

def F_X3_formOf (p0 : Int32) : Option (Nat) :=
  brn (p0 = (0 : Int32)) (some (6)) (brn (p0 = (2 : Int32)) (some (7)) (brn (p0 = (3 : Int32)) (some (8)) (brn (p0 = (5 : Int32)) (some (9)) (some (10)))))
theorem dX3_formOf_0 : decode cX3_formOf 0 = .ok (.iload_n 0, 1) := by decide +kernel
theorem dX3_formOf_1 : decode cX3_formOf 1 = .ok (.tableswitch 51 0 5 #[39, 51, 42, 45, 51, 48], 39) := by decide +kernel
theorem dX3_formOf_40 : decode cX3_formOf 40 = .ok (.ldc 72, 2) := by decide +kernel
theorem dX3_formOf_42 : decode cX3_formOf 42 = .ok (.areturn, 1) := by decide +kernel
theorem dX3_formOf_43 : decode cX3_formOf 43 = .ok (.ldc 74, 2) := by decide +kernel
theorem dX3_formOf_45 : decode cX3_formOf 45 = .ok (.areturn, 1) := by decide +kernel
theorem dX3_formOf_46 : decode cX3_formOf 46 = .ok (.ldc 76, 2) := by decide +kernel
theorem dX3_formOf_48 : decode cX3_formOf 48 = .ok (.areturn, 1) := by decide +kernel
theorem dX3_formOf_49 : decode cX3_formOf 49 = .ok (.ldc 78, 2) := by decide +kernel
theorem dX3_formOf_51 : decode cX3_formOf 51 = .ok (.areturn, 1) := by decide +kernel
theorem dX3_formOf_52 : decode cX3_formOf 52 = .ok (.ldc 80, 2) := by decide +kernel
theorem dX3_formOf_54 : decode cX3_formOf 54 = .ok (.areturn, 1) := by decide +kernel
theorem k_X3_formOf : cardS yX3_formOf (Cond.code yX3_formOf cX3_formOf 1 (some (.object "java/lang/String"))) 1 := ⟨qs_X3_formOf, qc_X3_formOf, qn_X3, by decide +kernel, by decide +kernel, by decide +kernel⟩
set_option maxHeartbeats 4000000 in
set_option maxRecDepth 100000 in
theorem c_X3_formOf (l : Launch) (ak av : Nat → Nat) (aS : Nat) (D : va_G) (g : Nat → ClassId) (p0 : Int32) (o : Nat) (h : F_X3_formOf p0 = some o) : ME l yX3_formOf (Cond.code yX3_formOf cX3_formOf 1 (some (.object "java/lang/String"))) { frames := 0, cells := 0, slots := 0, locals := 0 } ak av aS D g [.int p0] (some (.ref (ak o))) := by
  refine z_ed_start (by decide) (Nat.le_of_ble_eq_true rfl) ?_
  intro p e s m args below meth c Q X hr hE hQ
  refine z_lv (lv' := [(0, .int p0)]) rfl ?_
  refine z_iload_n X 0 dX3_formOf_0 rfl rfl ?_
  by_cases n1 : p0 = (0 : Int32)
  · have h := brn_t h n1
    refine z_tin (off := 39) 40 X dX3_formOf_1 (sw_eq (k := 0) n1 (by decide)) (by decide) (by decide) (by decide) (by decide) ?_
    refine z_ldcS (si := 6) X hE (by decide) rfl rfl dX3_formOf_40 ?_
    cases h
    exact z_aretR X hQ hr ⟨_, rfl⟩ dX3_formOf_42
  have h := brn_f h n1
  by_cases n2 : p0 = (2 : Int32)
  · have h := brn_t h n2
    refine z_tin (off := 42) 43 X dX3_formOf_1 (sw_eq (k := 2) n2 (by decide)) (by decide) (by decide) (by decide) (by decide) ?_
    refine z_ldcS (si := 7) X hE (by decide) rfl rfl dX3_formOf_43 ?_
    cases h
    exact z_aretR X hQ hr ⟨_, rfl⟩ dX3_formOf_45
  have h := brn_f h n2
  by_cases n3 : p0 = (3 : Int32)
  · have h := brn_t h n3
    refine z_tin (off := 45) 46 X dX3_formOf_1 (sw_eq (k := 3) n3 (by decide)) (by decide) (by decide) (by decide) (by decide) ?_
    refine z_ldcS (si := 8) X hE (by decide) rfl rfl dX3_formOf_46 ?_
    cases h
    exact z_aretR X hQ hr ⟨_, rfl⟩ dX3_formOf_48
  have h := brn_f h n3
  by_cases n4 : p0 = (5 : Int32)
  · have h := brn_t h n4
    refine z_tin (off := 48) 49 X dX3_formOf_1 (sw_eq (k := 5) n4 (by decide)) (by decide) (by decide) (by decide) (by decide) ?_
    refine z_ldcS (si := 9) X hE (by decide) rfl rfl dX3_formOf_49 ?_
    cases h
    exact z_aretR X hQ hr ⟨_, rfl⟩ dX3_formOf_51
  have h := brn_f h n4
  refine z_tdef 52 [0, 2, 3, 5] X dX3_formOf_1 (by decide) (by decide) (List.forall_mem_cons.mpr ⟨sw_ne n1 (by decide), List.forall_mem_cons.mpr ⟨sw_ne n2 (by decide), List.forall_mem_cons.mpr ⟨sw_ne n3 (by decide), List.forall_mem_cons.mpr ⟨sw_ne n4 (by decide), fun _ hk => absurd hk List.not_mem_nil⟩⟩⟩⟩) (by decide) ?_
  refine z_ldcS (si := 10) X hE (by decide) rfl rfl dX3_formOf_52 ?_
  cases h
  exact z_aretR X hQ hr ⟨_, rfl⟩ dX3_formOf_54
