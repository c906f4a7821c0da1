def J_X3_readForm_57 (p1 : Nat) (f_size : Int32) (f_count : Int32) (a_signs : Nat → Int32) (r4 : Int32 → Int32 → (Int32) → (Nat → Int32) → Option (Nat × Int32 × Int32 × (Nat → Int32))) (t0 : Int32) (x2 : Int32) (x3 : Int32) (f_place : Int32) (a_numbers : Nat → Int32) : Option (Nat × Int32 × Int32 × (Nat → Int32)) :=
  bnd (F_X3_readNumber t0 f_size a_signs f_place) (fun o7 => brn (o7.1 = ((-1) : Int32)) (some (0, (0 : Int32), o7.2, a_numbers)) (bnd (F_X7_put 180 (((3 : Int32) * f_count) + x2) o7.1 a_numbers) (fun o9 => r4 (x2 + 1) (x3 + 1) o7.2 o9)))

def J_X3_readForm_44 (p1 : Nat) (f_size : Int32) (f_count : Int32) (a_signs : Nat → Int32) (r4 : Int32 → Int32 → (Int32) → (Nat → Int32) → Option (Nat × Int32 × Int32 × (Nat → Int32))) (x2 : Int32) (x3 : Int32) (x4 : Int32) (f_place : Int32) (a_numbers : Nat → Int32) : Option (Nat × Int32 × Int32 × (Nat → Int32)) :=
  brn (x4 = (50 : Int32)) (J_X3_readForm_57 p1 f_size f_count a_signs (r4) (1 : Int32) x2 x3 f_place a_numbers) (J_X3_readForm_57 p1 f_size f_count a_signs (r4) (0 : Int32) x2 x3 f_place a_numbers)

def L_X3_readForm_4 (p1 : Nat) (f_size : Int32) (f_count : Int32) (a_signs : Nat → Int32) : Nat → Int32 → Int32 → (Int32) → (Nat → Int32) → Option (Nat × Int32 × Int32 × (Nat → Int32))
  | 0, _, _, _, _ => none
  | _n + 1, x2, x3, f_place, a_numbers =>
    grd (p1 < 12) (bnd (F_J0_length_8abf5 p1) (fun o1 => brn (o1 ≤ x3) (some (0, (1 : Int32), f_place, a_numbers)) (grd (p1 < 12) (bnd (F_J0_charAt_5068e p1 x3) (fun o4 => brn (o4 = (49 : Int32)) (J_X3_readForm_44 p1 f_size f_count a_signs (L_X3_readForm_4 p1 f_size f_count a_signs _n) x2 x3 o4 f_place a_numbers) (brn (o4 = (50 : Int32)) (J_X3_readForm_44 p1 f_size f_count a_signs (L_X3_readForm_4 p1 f_size f_count a_signs _n) x2 x3 o4 f_place a_numbers) (bnd (F_X3_readSign o4 f_size a_signs f_place) (fun o11 => brn (o11.1 = 0) (some (0, (0 : Int32), o11.2, a_numbers)) (L_X3_readForm_4 p1 f_size f_count a_signs _n x2 (x3 + 1) o11.2 a_numbers)))))))))

def F_X3_readForm (p1 : Nat) (f_size : Int32) (f_count : Int32) (a_signs : Nat → Int32) (f_place : Int32) (a_numbers : Nat → Int32) : Option (Nat × Int32 × Int32 × (Nat → Int32)) :=
  L_X3_readForm_4 p1 f_size f_count a_signs 100 (0 : Int32) (0 : Int32) f_place a_numbers
theorem dX3_readForm_0 : decode cX3_readForm 0 = .ok (.iconst 0, 1) := by decide +kernel
theorem dX3_readForm_1 : decode cX3_readForm 1 = .ok (.istore_n 2, 1) := by decide +kernel
theorem dX3_readForm_2 : decode cX3_readForm 2 = .ok (.iconst 0, 1) := by decide +kernel
theorem dX3_readForm_3 : decode cX3_readForm 3 = .ok (.istore_n 3, 1) := by decide +kernel
theorem dX3_readForm_4 : decode cX3_readForm 4 = .ok (.iload_n 3, 1) := by decide +kernel
theorem dX3_readForm_5 : decode cX3_readForm 5 = .ok (.aload_n 1, 1) := by decide +kernel
theorem dX3_readForm_6 : decode cX3_readForm 6 = .ok (.invokevirtual 82, 3) := by decide +kernel
theorem dX3_readForm_9 : decode cX3_readForm 9 = .ok (.if_icmp .ge 87, 3) := by decide +kernel
theorem dX3_readForm_12 : decode cX3_readForm 12 = .ok (.aload_n 1, 1) := by decide +kernel
theorem dX3_readForm_13 : decode cX3_readForm 13 = .ok (.iload_n 3, 1) := by decide +kernel
theorem dX3_readForm_14 : decode cX3_readForm 14 = .ok (.invokevirtual 87, 3) := by decide +kernel
theorem dX3_readForm_17 : decode cX3_readForm 17 = .ok (.istore 4, 2) := by decide +kernel
theorem dX3_readForm_19 : decode cX3_readForm 19 = .ok (.iload 4, 2) := by decide +kernel
theorem dX3_readForm_21 : decode cX3_readForm 21 = .ok (.bipush 49, 2) := by decide +kernel
theorem dX3_readForm_23 : decode cX3_readForm 23 = .ok (.if_icmp .eq 21, 3) := by decide +kernel
theorem dX3_readForm_26 : decode cX3_readForm 26 = .ok (.iload 4, 2) := by decide +kernel
theorem dX3_readForm_28 : decode cX3_readForm 28 = .ok (.bipush 50, 2) := by decide +kernel
theorem dX3_readForm_30 : decode cX3_readForm 30 = .ok (.if_icmp .eq 14, 3) := by decide +kernel
theorem dX3_readForm_33 : decode cX3_readForm 33 = .ok (.aload_n 0, 1) := by decide +kernel
theorem dX3_readForm_34 : decode cX3_readForm 34 = .ok (.iload 4, 2) := by decide +kernel
theorem dX3_readForm_36 : decode cX3_readForm 36 = .ok (.invokevirtual 45, 3) := by decide +kernel
theorem dX3_readForm_39 : decode cX3_readForm 39 = .ok (.ifCond .ne 51, 3) := by decide +kernel
theorem dX3_readForm_42 : decode cX3_readForm 42 = .ok (.iconst 0, 1) := by decide +kernel
theorem dX3_readForm_43 : decode cX3_readForm 43 = .ok (.ireturn, 1) := by decide +kernel
theorem dX3_readForm_44 : decode cX3_readForm 44 = .ok (.aload_n 0, 1) := by decide +kernel
theorem dX3_readForm_45 : decode cX3_readForm 45 = .ok (.iload 4, 2) := by decide +kernel
theorem dX3_readForm_47 : decode cX3_readForm 47 = .ok (.bipush 50, 2) := by decide +kernel
theorem dX3_readForm_49 : decode cX3_readForm 49 = .ok (.if_icmp .ne 7, 3) := by decide +kernel
theorem dX3_readForm_52 : decode cX3_readForm 52 = .ok (.iconst 1, 1) := by decide +kernel
theorem dX3_readForm_53 : decode cX3_readForm 53 = .ok (.goto 4, 3) := by decide +kernel
theorem dX3_readForm_56 : decode cX3_readForm 56 = .ok (.iconst 0, 1) := by decide +kernel
theorem dX3_readForm_57 : decode cX3_readForm 57 = .ok (.invokevirtual 91, 3) := by decide +kernel
theorem dX3_readForm_60 : decode cX3_readForm 60 = .ok (.istore 5, 2) := by decide +kernel
theorem dX3_readForm_62 : decode cX3_readForm 62 = .ok (.iload 5, 2) := by decide +kernel
theorem dX3_readForm_64 : decode cX3_readForm 64 = .ok (.iconst (-1), 1) := by decide +kernel
theorem dX3_readForm_65 : decode cX3_readForm 65 = .ok (.if_icmp .ne 5, 3) := by decide +kernel
theorem dX3_readForm_68 : decode cX3_readForm 68 = .ok (.iconst 0, 1) := by decide +kernel
theorem dX3_readForm_69 : decode cX3_readForm 69 = .ok (.ireturn, 1) := by decide +kernel
theorem dX3_readForm_70 : decode cX3_readForm 70 = .ok (.aload_n 0, 1) := by decide +kernel
theorem dX3_readForm_71 : decode cX3_readForm 71 = .ok (.getfield 19, 3) := by decide +kernel
theorem dX3_readForm_74 : decode cX3_readForm 74 = .ok (.iconst 3, 1) := by decide +kernel
theorem dX3_readForm_75 : decode cX3_readForm 75 = .ok (.aload_n 0, 1) := by decide +kernel
theorem dX3_readForm_76 : decode cX3_readForm 76 = .ok (.getfield 26, 3) := by decide +kernel
theorem dX3_readForm_79 : decode cX3_readForm 79 = .ok (.imul, 1) := by decide +kernel
theorem dX3_readForm_80 : decode cX3_readForm 80 = .ok (.iload_n 2, 1) := by decide +kernel
theorem dX3_readForm_81 : decode cX3_readForm 81 = .ok (.iadd, 1) := by decide +kernel
theorem dX3_readForm_82 : decode cX3_readForm 82 = .ok (.iload 5, 2) := by decide +kernel
theorem dX3_readForm_84 : decode cX3_readForm 84 = .ok (.invokestatic 57, 3) := by decide +kernel
theorem dX3_readForm_87 : decode cX3_readForm 87 = .ok (.iinc 2 1, 3) := by decide +kernel
theorem dX3_readForm_90 : decode cX3_readForm 90 = .ok (.iinc 3 1, 3) := by decide +kernel
theorem dX3_readForm_93 : decode cX3_readForm 93 = .ok (.goto (-89), 3) := by decide +kernel
theorem dX3_readForm_96 : decode cX3_readForm 96 = .ok (.iconst 1, 1) := by decide +kernel
theorem dX3_readForm_97 : decode cX3_readForm 97 = .ok (.ireturn, 1) := by decide +kernel
theorem k_X3_readForm : cardV yX3_readForm (Cond.code yX3_readForm cX3_readForm 6 (some .boolean)) 1 := ⟨⟨qi_X3_readForm, qv_X3_readForm⟩, qc_X3_readForm, qn_X3, by decide +kernel, by decide +kernel, by decide +kernel⟩
set_option maxHeartbeats 4000000 in
set_option maxRecDepth 100000 in
theorem c_X3_readForm (l : Launch) (hfl : l.stackTraces = false) (ak av : Nat → Nat) (aS : Nat) (D : va_G) (g : Nat → ClassId) (q_this q_signs q_kinds q_numbers : Nat) (p1 : Nat) (f_size : Int32) (f_count : Int32) (f_place : Int32) (f_errorPlace : Int32) (a_signs : Nat → Int32) (a_numbers : Nat → Int32) (o : Nat × Int32 × Int32 × (Nat → Int32)) (h : F_X3_readForm p1 f_size f_count a_signs f_place a_numbers = some o) : MX l yX3_readForm (Cond.code yX3_readForm cX3_readForm 6 (some .boolean)) { frames := 4, cells := 0, slots := 0, locals := 85 } ak av aS D g [.ref q_this, .ref (ak p1)] [(q_this, .inr (4, [.ref q_signs, .ref q_kinds, .ref q_numbers, .int f_size, .int f_count, .int f_place, .int f_errorPlace])), (q_signs, .inl (g 1, 60, .inl a_signs)), (q_numbers, .inl (g 0, 180, .inl a_numbers))] o.1 (some (.int o.2.1)) [(q_this, .inr (4, [.ref q_signs, .ref q_kinds, .ref q_numbers, .int f_size, .int f_count, .int o.2.2.1, .int f_errorPlace])), (q_signs, .inl (g 1, 60, .inl a_signs)), (q_numbers, .inl (g 0, 180, .inl o.2.2.2))] 0 0 := by
  refine z_ex_start (by decide) (Nat.le_of_ble_eq_true rfl) ?_
  intro p e s m args below meth c Q A X hr hE hA hno hQ
  refine z_lv (lv' := [(0, .ref q_this), (1, .ref (ak p1))]) rfl ?_
  have H4 : ∀ (n : Nat) (x2 : Int32) (x3 : Int32) (f_place : Int32) (a_numbers : Nat → Int32), L_X3_readForm_4 p1 f_size f_count a_signs  n x2 x3 f_place a_numbers = some o → Z p l e { frames := 4, cells := 0, slots := 0, locals := 85 } s m args below meth c Q 6 0 0 (IW D A s [(q_this, .inr (4, [.ref q_signs, .ref q_kinds, .ref q_numbers, .int f_size, .int f_count, .int f_place, .int f_errorPlace])), (q_signs, .inl (g 1, 60, .inl a_signs)), (q_numbers, .inl (g 0, 180, .inl a_numbers))]) 4 [(0, .ref q_this), (1, .ref (ak p1)), (2, .int x2), (3, .int x3)] [] := by
    intro n
    induction n with
    | zero => intro x2 x3 f_place a_numbers h; cases h
    | succ n4 ih4 =>
      intro x2 x3 f_place a_numbers h
      have H57 : ∀ (t0 : Int32) (x2 : Int32) (x3 : Int32) (f_place : Int32) (a_numbers : Nat → Int32), J_X3_readForm_57 p1 f_size f_count a_signs (L_X3_readForm_4 p1 f_size f_count a_signs n4) t0 x2 x3 f_place a_numbers = some o → Z p l e { frames := 4, cells := 0, slots := 0, locals := 85 } s m args below meth c Q 6 0 0 (IW D A s [(q_this, .inr (4, [.ref q_signs, .ref q_kinds, .ref q_numbers, .int f_size, .int f_count, .int f_place, .int f_errorPlace])), (q_signs, .inl (g 1, 60, .inl a_signs)), (q_numbers, .inl (g 0, 180, .inl a_numbers))]) 57 [(0, .ref q_this), (1, .ref (ak p1)), (2, .int x2), (3, .int x3)] [.int t0, .ref q_this] := by
        intro t0 x2 x3 f_place a_numbers h
        obtain ⟨o7, e8, h⟩ := bnd_p h
        refine z_wrV (rest := []) (q0 := 0) (ci := 4) (ws' := [(q_this, .inr (4, [.ref q_signs, .ref q_kinds, .ref q_numbers, .int f_size, .int f_count, .int o7.2, .int f_errorPlace])), (q_signs, .inl (g 1, 60, .inl a_signs)), (q_numbers, .inl (g 0, 180, .inl a_numbers))]) (wr := [(q_numbers, .inl (g 0, 180, .inl a_numbers))]) (as := [q_this, q_signs, q_numbers]) X k_X3_readNumber (c_X3_readNumber l D g q_this q_signs q_kinds q_numbers t0 f_size f_count f_place f_errorPlace a_signs o7 e8) ql_X3_X3_readNumber dX3_readForm_57 [0, 1] [2] ⟨rfl, rfl, rfl, rfl, rfl, rfl, rfl, rfl⟩ rfl rfl rfl rfl rfl ⟨Nat.le_of_ble_eq_true rfl, Nat.le_of_ble_eq_true rfl, rfl, rfl, Nat.le_of_ble_eq_true rfl, Nat.le_of_ble_eq_true rfl⟩ (Nat.le_of_ble_eq_true rfl) ?_
        refine z_istore X [(5, .int o7.1), (0, .ref q_this), (1, .ref (ak p1)), (2, .int x2), (3, .int x3)] dX3_readForm_60 (by decide) rfl ?_
        refine z_iload X 0 dX3_readForm_62 rfl ?_
        refine z_iconst X ((-1) : Int32) dX3_readForm_64 (by decide) ?_
        refine z_icmp_ne X 70 dX3_readForm_65 (by decide) h (fun _ h => ?_) (fun _ h => ?_)
        · refine z_iconst X (0 : Int32) dX3_readForm_68 (by decide) ?_
          cases h
          exact z_zretX X hQ (Nat.le_of_ble_eq_true rfl) (Nat.le_of_ble_eq_true rfl) hr dX3_readForm_69 rfl
        · refine z_aload_n X 1 dX3_readForm_70 rfl rfl ?_
          refine z_get (q0 := 0) (k := 2) (ci := 4) X IW_P iw_X3 rfl qf_X3_X3_numbers (by decide) dX3_readForm_71 rfl rfl ?_
          refine z_iconst X (3 : Int32) dX3_readForm_74 (by decide) ?_
          refine z_aload_n X 1 dX3_readForm_75 rfl rfl ?_
          refine z_get (q0 := 0) (k := 4) (ci := 4) X IW_P iw_X3 rfl qf_X3_X3_count (by decide) dX3_readForm_76 rfl rfl ?_
          refine z_imul X dX3_readForm_79 ?_
          refine z_iload_n X 3 dX3_readForm_80 rfl rfl ?_
          refine z_iadd X dX3_readForm_81 ?_
          refine z_iload X 0 dX3_readForm_82 rfl ?_
          obtain ⟨o9, e10, h⟩ := bnd_p h
          refine z_wrS (rest := []) (ws' := [(q_this, .inr (4, [.ref q_signs, .ref q_kinds, .ref q_numbers, .int f_size, .int f_count, .int o7.2, .int f_errorPlace])), (q_signs, .inl (g 1, 60, .inl a_signs)), (q_numbers, .inl (g 0, 180, .inl o9))]) (wr := [(q_this, .inr (4, [.ref q_signs, .ref q_kinds, .ref q_numbers, .int f_size, .int f_count, .int o7.2, .int f_errorPlace])), (q_signs, .inl (g 1, 60, .inl a_signs))]) (as := [q_this, q_signs, q_numbers]) X k_X7_put (c_X7_put l D g q_numbers 180 (((3 : Int32) * f_count) + x2) o7.1 a_numbers o9 e10) ql_X3_X7_put dX3_readForm_84 [2] [0, 1] ⟨rfl, rfl, rfl, rfl, rfl, rfl, rfl, rfl⟩ rfl rfl ⟨Nat.le_of_ble_eq_true rfl, Nat.le_of_ble_eq_true rfl, rfl, rfl, Nat.le_of_ble_eq_true rfl, Nat.le_of_ble_eq_true rfl⟩ (Nat.le_of_ble_eq_true rfl) ?_
          refine z_iinc X 3 [(2, .int (x2 + 1)), (5, .int o7.1), (0, .ref q_this), (1, .ref (ak p1)), (3, .int x3)] dX3_readForm_87 rfl rfl (by decide) rfl ?_
          refine z_iinc X 4 [(3, .int (x3 + 1)), (2, .int (x2 + 1)), (5, .int o7.1), (0, .ref q_this), (1, .ref (ak p1))] dX3_readForm_90 rfl rfl (by decide) rfl ?_
          refine z_goto X 4 dX3_readForm_93 (by decide) ?_
          refine z_sub (lv' := [(0, .ref q_this), (1, .ref (ak p1)), (2, .int (x2 + 1)), (3, .int (x3 + 1))]) [3, 4, 1, 0] rfl ?_
          exact ih4 (x2 + 1) (x3 + 1) o7.2 o9 h
      have H44 : ∀ (x2 : Int32) (x3 : Int32) (x4 : Int32) (f_place : Int32) (a_numbers : Nat → Int32), J_X3_readForm_44 p1 f_size f_count a_signs (L_X3_readForm_4 p1 f_size f_count a_signs n4) x2 x3 x4 f_place a_numbers = some o → Z p l e { frames := 4, cells := 0, slots := 0, locals := 85 } s m args below meth c Q 6 0 0 (IW D A s [(q_this, .inr (4, [.ref q_signs, .ref q_kinds, .ref q_numbers, .int f_size, .int f_count, .int f_place, .int f_errorPlace])), (q_signs, .inl (g 1, 60, .inl a_signs)), (q_numbers, .inl (g 0, 180, .inl a_numbers))]) 44 [(0, .ref q_this), (1, .ref (ak p1)), (2, .int x2), (3, .int x3), (4, .int x4)] [] := by
        intro x2 x3 x4 f_place a_numbers h
        refine z_aload_n X 0 dX3_readForm_44 rfl rfl ?_
        refine z_iload X 4 dX3_readForm_45 rfl ?_
        refine z_bipush X (50 : Int32) dX3_readForm_47 (by decide) ?_
        refine z_icmp_ne X 56 dX3_readForm_49 (by decide) h (fun _ h => ?_) (fun _ h => ?_)
        · refine z_iconst X (1 : Int32) dX3_readForm_52 (by decide) ?_
          refine z_goto X 57 dX3_readForm_53 (by decide) ?_
          refine z_widen (k := 0) (n := 0) (Nat.le_of_ble_eq_true rfl) (Nat.le_of_ble_eq_true rfl) ?_
          refine z_sub (lv' := [(0, .ref q_this), (1, .ref (ak p1)), (2, .int x2), (3, .int x3)]) [0, 1, 2, 3] rfl ?_
          exact H57 (1 : Int32) x2 x3 f_place a_numbers h
        · refine z_iconst X (0 : Int32) dX3_readForm_56 (by decide) ?_
          refine z_widen (k := 0) (n := 0) (Nat.le_of_ble_eq_true rfl) (Nat.le_of_ble_eq_true rfl) ?_
          refine z_sub (lv' := [(0, .ref q_this), (1, .ref (ak p1)), (2, .int x2), (3, .int x3)]) [0, 1, 2, 3] rfl ?_
          exact H57 (0 : Int32) x2 x3 f_place a_numbers h
      refine z_iload_n X 3 dX3_readForm_4 rfl rfl ?_
      refine z_aload_n X 1 dX3_readForm_5 rfl rfl ?_
      obtain ⟨e3, h⟩ := grd_p h
      obtain ⟨o1, e2, h⟩ := bnd_p h
      refine z_edV (rest := [.int x3]) X IW_S hE k_J0_length_8abf5 (c_J0_length_8abf5 l ak av aS D g p1 o1 e2) ql_X3_J0_length_8abf5 dX3_readForm_6 e3 rfl rfl rfl ⟨Nat.le_of_ble_eq_true rfl, Nat.le_of_ble_eq_true rfl, rfl, rfl, Nat.le_of_ble_eq_true rfl, Nat.le_of_ble_eq_true rfl⟩ (Nat.le_of_ble_eq_true rfl) ?_
      refine z_icmp_ge X 96 dX3_readForm_9 (by decide) h (fun _ h => ?_) (fun _ h => ?_)
      · refine z_iconst X (1 : Int32) dX3_readForm_96 (by decide) ?_
        cases h
        exact z_zretX X hQ (Nat.le_of_ble_eq_true rfl) (Nat.le_of_ble_eq_true rfl) hr dX3_readForm_97 rfl
      · refine z_aload_n X 1 dX3_readForm_12 rfl rfl ?_
        refine z_iload_n X 3 dX3_readForm_13 rfl rfl ?_
        obtain ⟨e6, h⟩ := grd_p h
        obtain ⟨o4, e5, h⟩ := bnd_p h
        refine z_edV (rest := []) X IW_S hE k_J0_charAt_5068e (c_J0_charAt_5068e l ak av aS D g p1 x3 o4 e5) ql_X3_J0_charAt_5068e dX3_readForm_14 e6 rfl rfl rfl ⟨Nat.le_of_ble_eq_true rfl, Nat.le_of_ble_eq_true rfl, rfl, rfl, Nat.le_of_ble_eq_true rfl, Nat.le_of_ble_eq_true rfl⟩ (Nat.le_of_ble_eq_true rfl) ?_
        refine z_istore X [(4, .int o4), (0, .ref q_this), (1, .ref (ak p1)), (2, .int x2), (3, .int x3)] dX3_readForm_17 (by decide) rfl ?_
        refine z_iload X 0 dX3_readForm_19 rfl ?_
        refine z_bipush X (49 : Int32) dX3_readForm_21 (by decide) ?_
        refine z_icmp_eq X 44 dX3_readForm_23 (by decide) h (fun _ h => ?_) (fun _ h => ?_)
        · refine z_widen (k := 0) (n := 0) (Nat.le_of_ble_eq_true rfl) (Nat.le_of_ble_eq_true rfl) ?_
          refine z_sub (lv' := [(0, .ref q_this), (1, .ref (ak p1)), (2, .int x2), (3, .int x3), (4, .int o4)]) [1, 2, 3, 4, 0] rfl ?_
          exact H44 x2 x3 o4 f_place a_numbers h
        · refine z_iload X 0 dX3_readForm_26 rfl ?_
          refine z_bipush X (50 : Int32) dX3_readForm_28 (by decide) ?_
          refine z_icmp_eq X 44 dX3_readForm_30 (by decide) h (fun _ h => ?_) (fun _ h => ?_)
          · refine z_widen (k := 0) (n := 0) (Nat.le_of_ble_eq_true rfl) (Nat.le_of_ble_eq_true rfl) ?_
            refine z_sub (lv' := [(0, .ref q_this), (1, .ref (ak p1)), (2, .int x2), (3, .int x3), (4, .int o4)]) [1, 2, 3, 4, 0] rfl ?_
            exact H44 x2 x3 o4 f_place a_numbers h
          · refine z_aload_n X 1 dX3_readForm_33 rfl rfl ?_
            refine z_iload X 0 dX3_readForm_34 rfl ?_
            obtain ⟨o11, e12, h⟩ := bnd_p h
            refine z_wrV (rest := []) (q0 := 0) (ci := 4) (ws' := [(q_this, .inr (4, [.ref q_signs, .ref q_kinds, .ref q_numbers, .int f_size, .int f_count, .int o11.2, .int f_errorPlace])), (q_signs, .inl (g 1, 60, .inl a_signs)), (q_numbers, .inl (g 0, 180, .inl a_numbers))]) (wr := [(q_numbers, .inl (g 0, 180, .inl a_numbers))]) (as := [q_this, q_signs, q_numbers]) X k_X3_readSign (c_X3_readSign l D g q_this q_signs q_kinds q_numbers o4 f_size f_count f_place f_errorPlace a_signs o11 e12) ql_X3_X3_readSign dX3_readForm_36 [0, 1] [2] ⟨rfl, rfl, rfl, rfl, rfl, rfl, rfl, rfl⟩ rfl rfl rfl rfl rfl ⟨Nat.le_of_ble_eq_true rfl, Nat.le_of_ble_eq_true rfl, rfl, rfl, Nat.le_of_ble_eq_true rfl, Nat.le_of_ble_eq_true rfl⟩ (Nat.le_of_ble_eq_true rfl) ?_
            refine z_if_ne X 90 dX3_readForm_39 (by decide) h (fun _ h => ?_) (fun _ h => ?_)
            · refine z_iconst X (0 : Int32) dX3_readForm_42 (by decide) ?_
              cases h
              exact z_zretX X hQ (Nat.le_of_ble_eq_true rfl) (Nat.le_of_ble_eq_true rfl) hr dX3_readForm_43 rfl
            · refine z_iinc X 4 [(3, .int (x3 + 1)), (4, .int o4), (0, .ref q_this), (1, .ref (ak p1)), (2, .int x2)] dX3_readForm_90 rfl rfl (by decide) rfl ?_
              refine z_goto X 4 dX3_readForm_93 (by decide) ?_
              refine z_sub (lv' := [(0, .ref q_this), (1, .ref (ak p1)), (2, .int x2), (3, .int (x3 + 1))]) [2, 3, 4, 0] rfl ?_
              exact ih4 x2 (x3 + 1) o11.2 a_numbers h
  refine z_iconst X (0 : Int32) dX3_readForm_0 (by decide) ?_
  refine z_istore_n X [(2, .int (0 : Int32)), (0, .ref q_this), (1, .ref (ak p1))] dX3_readForm_1 rfl (by decide) rfl ?_
  refine z_iconst X (0 : Int32) dX3_readForm_2 (by decide) ?_
  refine z_istore_n X [(3, .int (0 : Int32)), (2, .int (0 : Int32)), (0, .ref q_this), (1, .ref (ak p1))] dX3_readForm_3 rfl (by decide) rfl ?_
  refine z_widen (k := 0) (n := 0) (Nat.le_of_ble_eq_true rfl) (Nat.le_of_ble_eq_true rfl) ?_
  refine z_sub (lv' := [(0, .ref q_this), (1, .ref (ak p1)), (2, .int (0 : Int32)), (3, .int (0 : Int32))]) [2, 3, 1, 0] rfl ?_
  exact H4 100 (0 : Int32) (0 : Int32) f_place a_numbers h

def F_X3_readOrder (f_size : Int32) (a_signs : Nat → Int32) (f_count : Int32) (f_place : Int32) (a_kinds : Nat → Int32) (a_numbers : Nat → Int32) : Option (Nat × Int32 × Int32 × Int32 × (Nat → Int32) × (Nat → Int32)) :=
  bnd (F_X3_signHere f_size f_place a_signs) (fun o1 => bnd (F_X3_kindOf o1) (fun o3 => brn (o3 = ((-1) : Int32)) (some (0, (0 : Int32), f_count, f_place, a_kinds, a_numbers)) (bnd (F_X7_put 60 f_count o3 a_kinds) (fun o5 => bnd (F_X3_formOf o3) (fun o7 => bnd (F_X3_readForm o7 f_size f_count a_signs (f_place + (1 : Int32)) a_numbers) (fun o9 => brn (o9.1 = 0) (brn (o9.2.1 = 0) (some (0, (0 : Int32), f_count, o9.2.2.1, o5, o9.2.2.2)) (some (0, (1 : Int32), (f_count + (1 : Int32)), o9.2.2.1, o5, o9.2.2.2))) (some (o9.1, (0 : Int32), f_count, o9.2.2.1, o5, o9.2.2.2))))))))
theorem dX3_readOrder_0 : decode cX3_readOrder 0 = .ok (.aload_n 0, 1) := by decide +kernel
theorem dX3_readOrder_1 : decode cX3_readOrder 1 = .ok (.invokevirtual 49, 3) := by decide +kernel
theorem dX3_readOrder_4 : decode cX3_readOrder 4 = .ok (.invokestatic 53, 3) := by decide +kernel
theorem dX3_readOrder_7 : decode cX3_readOrder 7 = .ok (.istore_n 1, 1) := by decide +kernel
theorem dX3_readOrder_8 : decode cX3_readOrder 8 = .ok (.iload_n 1, 1) := by decide +kernel
theorem dX3_readOrder_9 : decode cX3_readOrder 9 = .ok (.iconst (-1), 1) := by decide +kernel
theorem dX3_readOrder_10 : decode cX3_readOrder 10 = .ok (.if_icmp .ne 5, 3) := by decide +kernel
theorem dX3_readOrder_13 : decode cX3_readOrder 13 = .ok (.iconst 0, 1) := by decide +kernel
theorem dX3_readOrder_14 : decode cX3_readOrder 14 = .ok (.ireturn, 1) := by decide +kernel
theorem dX3_readOrder_15 : decode cX3_readOrder 15 = .ok (.aload_n 0, 1) := by decide +kernel
theorem dX3_readOrder_16 : decode cX3_readOrder 16 = .ok (.dup, 1) := by decide +kernel
theorem dX3_readOrder_17 : decode cX3_readOrder 17 = .ok (.getfield 29, 3) := by decide +kernel
theorem dX3_readOrder_20 : decode cX3_readOrder 20 = .ok (.iconst 1, 1) := by decide +kernel
theorem dX3_readOrder_21 : decode cX3_readOrder 21 = .ok (.iadd, 1) := by decide +kernel
theorem dX3_readOrder_22 : decode cX3_readOrder 22 = .ok (.putfield 29, 3) := by decide +kernel
theorem dX3_readOrder_25 : decode cX3_readOrder 25 = .ok (.aload_n 0, 1) := by decide +kernel
theorem dX3_readOrder_26 : decode cX3_readOrder 26 = .ok (.getfield 15, 3) := by decide +kernel
theorem dX3_readOrder_29 : decode cX3_readOrder 29 = .ok (.aload_n 0, 1) := by decide +kernel
theorem dX3_readOrder_30 : decode cX3_readOrder 30 = .ok (.getfield 26, 3) := by decide +kernel
theorem dX3_readOrder_33 : decode cX3_readOrder 33 = .ok (.iload_n 1, 1) := by decide +kernel
theorem dX3_readOrder_34 : decode cX3_readOrder 34 = .ok (.invokestatic 57, 3) := by decide +kernel
theorem dX3_readOrder_37 : decode cX3_readOrder 37 = .ok (.aload_n 0, 1) := by decide +kernel
theorem dX3_readOrder_38 : decode cX3_readOrder 38 = .ok (.iload_n 1, 1) := by decide +kernel
theorem dX3_readOrder_39 : decode cX3_readOrder 39 = .ok (.invokestatic 61, 3) := by decide +kernel
theorem dX3_readOrder_42 : decode cX3_readOrder 42 = .ok (.invokevirtual 65, 3) := by decide +kernel
theorem dX3_readOrder_45 : decode cX3_readOrder 45 = .ok (.ifCond .ne 5, 3) := by decide +kernel
theorem dX3_readOrder_48 : decode cX3_readOrder 48 = .ok (.iconst 0, 1) := by decide +kernel
theorem dX3_readOrder_49 : decode cX3_readOrder 49 = .ok (.ireturn, 1) := by decide +kernel
theorem dX3_readOrder_50 : decode cX3_readOrder 50 = .ok (.aload_n 0, 1) := by decide +kernel
theorem dX3_readOrder_51 : decode cX3_readOrder 51 = .ok (.dup, 1) := by decide +kernel
theorem dX3_readOrder_52 : decode cX3_readOrder 52 = .ok (.getfield 26, 3) := by decide +kernel
theorem dX3_readOrder_55 : decode cX3_readOrder 55 = .ok (.iconst 1, 1) := by decide +kernel
theorem dX3_readOrder_56 : decode cX3_readOrder 56 = .ok (.iadd, 1) := by decide +kernel
theorem dX3_readOrder_57 : decode cX3_readOrder 57 = .ok (.putfield 26, 3) := by decide +kernel
theorem dX3_readOrder_60 : decode cX3_readOrder 60 = .ok (.iconst 1, 1) := by decide +kernel
theorem dX3_readOrder_61 : decode cX3_readOrder 61 = .ok (.ireturn, 1) := by decide +kernel
theorem k_X3_readOrder : cardV yX3_readOrder (Cond.code yX3_readOrder cX3_readOrder 2 (some .boolean)) 0 := ⟨⟨qi_X3_readOrder, qv_X3_readOrder⟩, qc_X3_readOrder, qn_X3, by decide +kernel, by decide +kernel, by decide +kernel⟩
set_option maxHeartbeats 4000000 in
set_option maxRecDepth 100000 in
theorem c_X3_readOrder (l : Launch) (hfl : l.stackTraces = false) (ak av : Nat → Nat) (aS : Nat) (D : va_G) (g : Nat → ClassId) (q_this q_signs q_kinds q_numbers : Nat) (f_size : Int32) (f_count : Int32) (f_place : Int32) (f_errorPlace : Int32) (a_signs : Nat → Int32) (a_kinds : Nat → Int32) (a_numbers : Nat → Int32) (o : Nat × Int32 × Int32 × Int32 × (Nat → Int32) × (Nat → Int32)) (h : F_X3_readOrder f_size a_signs f_count f_place a_kinds a_numbers = some o) : MX l yX3_readOrder (Cond.code yX3_readOrder cX3_readOrder 2 (some .boolean)) { frames := 5, cells := 0, slots := 0, locals := 110 } ak av aS D g [.ref q_this] [(q_this, .inr (4, [.ref q_signs, .ref q_kinds, .ref q_numbers, .int f_size, .int f_count, .int f_place, .int f_errorPlace])), (q_signs, .inl (g 1, 60, .inl a_signs)), (q_kinds, .inl (g 0, 60, .inl a_kinds)), (q_numbers, .inl (g 0, 180, .inl a_numbers))] o.1 (some (.int o.2.1)) [(q_this, .inr (4, [.ref q_signs, .ref q_kinds, .ref q_numbers, .int f_size, .int o.2.2.1, .int o.2.2.2.1, .int f_errorPlace])), (q_signs, .inl (g 1, 60, .inl a_signs)), (q_kinds, .inl (g 0, 60, .inl o.2.2.2.2.1)), (q_numbers, .inl (g 0, 180, .inl o.2.2.2.2.2))] 0 0 := by
  refine z_ex_start (by decide) (Nat.le_of_ble_eq_true rfl) ?_
  intro p e s m args below meth c Q A X hr hE hA hno hQ
  refine z_lv (lv' := [(0, .ref q_this)]) rfl ?_
  refine z_aload_n X 0 dX3_readOrder_0 rfl rfl ?_
  obtain ⟨o1, e2, h⟩ := bnd_p h
  refine z_rdV (rest := []) (q0 := 0) (ci := 4) X IW_P k_X3_signHere (c_X3_signHere l D g q_this q_signs q_kinds q_numbers f_size f_count f_place f_errorPlace a_signs o1 e2) ql_X3_X3_signHere dX3_readOrder_1 [0, 1] rfl rfl rfl rfl rfl rfl ⟨Nat.le_of_ble_eq_true rfl, Nat.le_of_ble_eq_true rfl, rfl, rfl, Nat.le_of_ble_eq_true rfl, Nat.le_of_ble_eq_true rfl⟩ (Nat.le_of_ble_eq_true rfl) ?_
  obtain ⟨o3, e4, h⟩ := bnd_p h
  refine z_edS (rest := []) X IW_S hE k_X3_kindOf (c_X3_kindOf l ak av aS D g o1 o3 e4) ql_X3_X3_kindOf dX3_readOrder_4 rfl rfl ⟨Nat.le_of_ble_eq_true rfl, Nat.le_of_ble_eq_true rfl, rfl, rfl, Nat.le_of_ble_eq_true rfl, Nat.le_of_ble_eq_true rfl⟩ (Nat.le_of_ble_eq_true rfl) ?_
  refine z_istore_n X [(1, .int o3), (0, .ref q_this)] dX3_readOrder_7 rfl (by decide) rfl ?_
  refine z_iload_n X 0 dX3_readOrder_8 rfl rfl ?_
  refine z_iconst X ((-1) : Int32) dX3_readOrder_9 (by decide) ?_
  refine z_icmp_ne X 15 dX3_readOrder_10 (by decide) h (fun _ h => ?_) (fun _ h => ?_)
  · refine z_iconst X (0 : Int32) dX3_readOrder_13 (by decide) ?_
    cases h
    exact z_zretX X hQ (Nat.le_of_ble_eq_true rfl) (Nat.le_of_ble_eq_true rfl) hr dX3_readOrder_14 rfl
  · refine z_aload_n X 1 dX3_readOrder_15 rfl rfl ?_
    refine z_dup X dX3_readOrder_16 rfl ?_
    refine z_get (q0 := 0) (k := 5) (ci := 4) X IW_P iw_X3 rfl qf_X3_X3_place (by decide) dX3_readOrder_17 rfl rfl ?_
    refine z_iconst X (1 : Int32) dX3_readOrder_20 (by decide) ?_
    refine z_iadd X dX3_readOrder_21 ?_
    refine z_put (q0 := 0) (k := 5) (ci := 4) (ws' := [(q_this, .inr (4, [.ref q_signs, .ref q_kinds, .ref q_numbers, .int f_size, .int f_count, .int (f_place + (1 : Int32)), .int f_errorPlace])), (q_signs, .inl (g 1, 60, .inl a_signs)), (q_kinds, .inl (g 0, 60, .inl a_kinds)), (q_numbers, .inl (g 0, 180, .inl a_numbers))]) X iw_X3 tyX3_ok nmX3 rfl qf_X3_X3_place (by decide) rfl rfl dX3_readOrder_22 rfl rfl rfl (Nat.le_of_ble_eq_true rfl) rfl ?_
    refine z_aload_n X 1 dX3_readOrder_25 rfl rfl ?_
    refine z_get (q0 := 0) (k := 1) (ci := 4) X IW_P iw_X3 rfl qf_X3_X3_kinds (by decide) dX3_readOrder_26 rfl rfl ?_
    refine z_aload_n X 1 dX3_readOrder_29 rfl rfl ?_
    refine z_get (q0 := 0) (k := 4) (ci := 4) X IW_P iw_X3 rfl qf_X3_X3_count (by decide) dX3_readOrder_30 rfl rfl ?_
    refine z_iload_n X 0 dX3_readOrder_33 rfl rfl ?_
    obtain ⟨o5, e6, h⟩ := bnd_p h
    refine z_wrS (rest := []) (ws' := [(q_this, .inr (4, [.ref q_signs, .ref q_kinds, .ref q_numbers, .int f_size, .int f_count, .int (f_place + (1 : Int32)), .int f_errorPlace])), (q_signs, .inl (g 1, 60, .inl a_signs)), (q_kinds, .inl (g 0, 60, .inl o5)), (q_numbers, .inl (g 0, 180, .inl a_numbers))]) (wr := [(q_this, .inr (4, [.ref q_signs, .ref q_kinds, .ref q_numbers, .int f_size, .int f_count, .int (f_place + (1 : Int32)), .int f_errorPlace])), (q_signs, .inl (g 1, 60, .inl a_signs)), (q_numbers, .inl (g 0, 180, .inl a_numbers))]) (as := [q_this, q_signs, q_kinds, q_numbers]) X k_X7_put (c_X7_put l D g q_kinds 60 f_count o3 a_kinds o5 e6) ql_X3_X7_put dX3_readOrder_34 [2] [0, 1, 3] ⟨rfl, rfl, rfl, rfl, rfl, rfl, rfl, rfl⟩ rfl rfl ⟨Nat.le_of_ble_eq_true rfl, Nat.le_of_ble_eq_true rfl, rfl, rfl, Nat.le_of_ble_eq_true rfl, Nat.le_of_ble_eq_true rfl⟩ (Nat.le_of_ble_eq_true rfl) ?_
    refine z_aload_n X 1 dX3_readOrder_37 rfl rfl ?_
    refine z_iload_n X 0 dX3_readOrder_38 rfl rfl ?_
    obtain ⟨o7, e8, h⟩ := bnd_p h
    refine z_edS (rest := [.ref q_this]) X IW_S hE k_X3_formOf (c_X3_formOf l ak av aS D g o3 o7 e8) ql_X3_X3_formOf dX3_readOrder_39 rfl rfl ⟨Nat.le_of_ble_eq_true rfl, Nat.le_of_ble_eq_true rfl, rfl, rfl, Nat.le_of_ble_eq_true rfl, Nat.le_of_ble_eq_true rfl⟩ (Nat.le_of_ble_eq_true rfl) ?_
    obtain ⟨o9, e10, h⟩ := bnd_p h
    have f11 : fitsW [(q_this, .inr (4, [.ref q_signs, .ref q_kinds, .ref q_numbers, .int f_size, .int f_count, .int (f_place + (1 : Int32)), .int f_errorPlace])), (q_signs, .inl (g 1, 60, .inl a_signs)), (q_kinds, .inl (g 0, 60, .inl o5)), (q_numbers, .inl (g 0, 180, .inl a_numbers))] [(q_this, .inr (4, [.ref q_signs, .ref q_kinds, .ref q_numbers, .int f_size, .int f_count, .int o9.2.2.1, .int f_errorPlace])), (q_signs, .inl (g 1, 60, .inl a_signs)), (q_kinds, .inl (g 0, 60, .inl o5)), (q_numbers, .inl (g 0, 180, .inl o9.2.2.2))] [(q_this, .inr (4, [.ref q_signs, .ref q_kinds, .ref q_numbers, .int f_size, .int f_count, .int (f_place + (1 : Int32)), .int f_errorPlace])), (q_signs, .inl (g 1, 60, .inl a_signs)), (q_numbers, .inl (g 0, 180, .inl a_numbers))] [(q_this, .inr (4, [.ref q_signs, .ref q_kinds, .ref q_numbers, .int f_size, .int f_count, .int o9.2.2.1, .int f_errorPlace])), (q_signs, .inl (g 1, 60, .inl a_signs)), (q_numbers, .inl (g 0, 180, .inl o9.2.2.2))] [(q_kinds, .inl (g 0, 60, .inl o5))] [q_this, q_signs, q_kinds, q_numbers] [0, 1, 3] [2] := ⟨rfl, rfl, rfl, rfl, rfl, rfl, rfl, rfl⟩
    refine z_exV (rest := []) (q0 := 0) (ci := 4) (ws' := [(q_this, .inr (4, [.ref q_signs, .ref q_kinds, .ref q_numbers, .int f_size, .int f_count, .int o9.2.2.1, .int f_errorPlace])), (q_signs, .inl (g 1, 60, .inl a_signs)), (q_kinds, .inl (g 0, 60, .inl o5)), (q_numbers, .inl (g 0, 180, .inl o9.2.2.2))]) X hE hA k_X3_readForm (c_X3_readForm l hfl ak av aS D g q_this q_signs q_kinds q_numbers o7 f_size f_count (f_place + (1 : Int32)) f_errorPlace a_signs a_numbers o9 e10) ql_X3_X3_readForm dX3_readOrder_42 (bkc_of f11) (bk_of f11) rfl rfl rfl rfl rfl ⟨Nat.le_of_ble_eq_true rfl, Nat.le_of_ble_eq_true rfl, rfl, rfl, Nat.le_of_ble_eq_true rfl, Nat.le_of_ble_eq_true rfl⟩ (Nat.le_of_ble_eq_true rfl) (fun x12 => ?_) (fun x12 => ?_)
    · have h := brn_t h x12
      refine z_if_ne X 50 dX3_readOrder_45 (by decide) h (fun _ h => ?_) (fun _ h => ?_)
      · refine z_iconst X (0 : Int32) dX3_readOrder_48 (by decide) ?_
        cases h
        exact z_zretX X hQ (Nat.le_of_ble_eq_true rfl) (Nat.le_of_ble_eq_true rfl) hr dX3_readOrder_49 rfl
      · refine z_aload_n X 1 dX3_readOrder_50 rfl rfl ?_
        refine z_dup X dX3_readOrder_51 rfl ?_
        refine z_get (q0 := 0) (k := 4) (ci := 4) X IW_P iw_X3 rfl qf_X3_X3_count (by decide) dX3_readOrder_52 rfl rfl ?_
        refine z_iconst X (1 : Int32) dX3_readOrder_55 (by decide) ?_
        refine z_iadd X dX3_readOrder_56 ?_
        refine z_put (q0 := 0) (k := 4) (ci := 4) (ws' := [(q_this, .inr (4, [.ref q_signs, .ref q_kinds, .ref q_numbers, .int f_size, .int (f_count + (1 : Int32)), .int o9.2.2.1, .int f_errorPlace])), (q_signs, .inl (g 1, 60, .inl a_signs)), (q_kinds, .inl (g 0, 60, .inl o5)), (q_numbers, .inl (g 0, 180, .inl o9.2.2.2))]) X iw_X3 tyX3_ok nmX3 rfl qf_X3_X3_count (by decide) rfl rfl dX3_readOrder_57 rfl rfl rfl (Nat.le_of_ble_eq_true rfl) rfl ?_
        refine z_iconst X (1 : Int32) dX3_readOrder_60 (by decide) ?_
        cases h
        exact z_zretX X hQ (Nat.le_of_ble_eq_true rfl) (Nat.le_of_ble_eq_true rfl) hr dX3_readOrder_61 rfl
    · have h := brn_f h x12
      cases h
      exact zt_out (lv := [(1, .int o3), (0, .ref q_this)]) X hno hQ x12 (Nat.le_of_ble_eq_true rfl) (Nat.le_of_ble_eq_true rfl)

def J_X3_read_79 (f_size : Int32) (a_signs : Nat → Int32) (t0 : Int32) (x1 : Int32) (f_count : Int32) (f_place : Int32) (f_errorPlace : Int32) (a_kinds : Nat → Int32) (a_numbers : Nat → Int32) : Option (Nat × Int32 × Int32 × Int32 × Int32 × (Nat → Int32) × (Nat → Int32)) :=
  grd (x1 = 0 ∨ x1 = 1) (some (0, x1, f_count, f_place, t0, a_kinds, a_numbers))

def J_X3_read_66 (f_size : Int32) (a_signs : Nat → Int32) (x1 : Int32) (f_count : Int32) (f_place : Int32) (f_errorPlace : Int32) (a_kinds : Nat → Int32) (a_numbers : Nat → Int32) : Option (Nat × Int32 × Int32 × Int32 × Int32 × (Nat → Int32) × (Nat → Int32)) :=
  brn (x1 = 0) (J_X3_read_79 f_size a_signs f_place x1 f_count f_place f_errorPlace a_kinds a_numbers) (J_X3_read_79 f_size a_signs ((-1) : Int32) x1 f_count f_place f_errorPlace a_kinds a_numbers)

def J_X3_read_59 (f_size : Int32) (a_signs : Nat → Int32) (r17 : Int32 → Int32 → (Int32) → (Int32) → (Int32) → (Nat → Int32) → (Nat → Int32) → Option (Nat × Int32 × Int32 × Int32 × Int32 × (Nat → Int32) × (Nat → Int32))) (t0 : Int32) (x2 : Int32) (f_count : Int32) (f_place : Int32) (f_errorPlace : Int32) (a_kinds : Nat → Int32) (a_numbers : Nat → Int32) : Option (Nat × Int32 × Int32 × Int32 × Int32 × (Nat → Int32) × (Nat → Int32)) :=
  r17 t0 (x2 + 1) f_count f_place f_errorPlace a_kinds a_numbers

def J_X3_read_58 (f_size : Int32) (a_signs : Nat → Int32) (r17 : Int32 → Int32 → (Int32) → (Int32) → (Int32) → (Nat → Int32) → (Nat → Int32) → Option (Nat × Int32 × Int32 × Int32 × Int32 × (Nat → Int32) × (Nat → Int32))) (x2 : Int32) (f_count : Int32) (f_place : Int32) (f_errorPlace : Int32) (a_kinds : Nat → Int32) (a_numbers : Nat → Int32) : Option (Nat × Int32 × Int32 × Int32 × Int32 × (Nat → Int32) × (Nat → Int32)) :=
  J_X3_read_59 f_size a_signs (r17) (0 : Int32) x2 f_count f_place f_errorPlace a_kinds a_numbers

def L_X3_read_17 (f_size : Int32) (a_signs : Nat → Int32) : Nat → Int32 → Int32 → (Int32) → (Int32) → (Int32) → (Nat → Int32) → (Nat → Int32) → Option (Nat × Int32 × Int32 × Int32 × Int32 × (Nat → Int32) × (Nat → Int32))
  | 0, _, _, _, _, _, _, _ => none
  | _n + 1, x1, x2, f_count, f_place, f_errorPlace, a_kinds, a_numbers =>
    brn ((60 : Int32) ≤ x2) (J_X3_read_66 f_size a_signs x1 f_count f_place f_errorPlace a_kinds a_numbers) (brn (x1 = 0) (J_X3_read_66 f_size a_signs x1 f_count f_place f_errorPlace a_kinds a_numbers) (brn (f_size ≤ f_place) (J_X3_read_66 f_size a_signs x1 f_count f_place f_errorPlace a_kinds a_numbers) (bnd (F_X3_readSign (59 : Int32) f_size a_signs f_place) (fun o6 => brn (o6.1 = 0) (J_X3_read_58 f_size a_signs (L_X3_read_17 f_size a_signs _n) x2 f_count o6.2 f_errorPlace a_kinds a_numbers) (bnd (F_X3_readOrder f_size a_signs f_count o6.2 a_kinds a_numbers) (fun o8 => brn (o8.1 = 0) (brn (o8.2.1 = 0) (J_X3_read_58 f_size a_signs (L_X3_read_17 f_size a_signs _n) x2 o8.2.2.1 o8.2.2.2.1 f_errorPlace o8.2.2.2.2.1 o8.2.2.2.2.2) (J_X3_read_59 f_size a_signs (L_X3_read_17 f_size a_signs _n) (1 : Int32) x2 o8.2.2.1 o8.2.2.2.1 f_errorPlace o8.2.2.2.2.1 o8.2.2.2.2.2)) (some (o8.1, (0 : Int32), o8.2.2.1, o8.2.2.2.1, f_errorPlace, o8.2.2.2.2.1, o8.2.2.2.2.2))))))))

def F_X3_read (f_size : Int32) (a_signs : Nat → Int32) (f_count : Int32) (f_place : Int32) (f_errorPlace : Int32) (a_kinds : Nat → Int32) (a_numbers : Nat → Int32) : Option (Nat × Int32 × Int32 × Int32 × Int32 × (Nat → Int32) × (Nat → Int32)) :=
  bnd (F_X3_readOrder f_size a_signs (0 : Int32) (0 : Int32) a_kinds a_numbers) (fun o1 => brn (o1.1 = 0) (L_X3_read_17 f_size a_signs 100 o1.2.1 (0 : Int32) o1.2.2.1 o1.2.2.2.1 f_errorPlace o1.2.2.2.2.1 o1.2.2.2.2.2) (some (o1.1, (0 : Int32), o1.2.2.1, o1.2.2.2.1, f_errorPlace, o1.2.2.2.2.1, o1.2.2.2.2.2)))
theorem dX3_read_0 : decode cX3_read 0 = .ok (.aload_n 0, 1) := by decide +kernel
theorem dX3_read_1 : decode cX3_read 1 = .ok (.iconst 0, 1) := by decide +kernel
theorem dX3_read_2 : decode cX3_read 2 = .ok (.putfield 29, 3) := by decide +kernel
theorem dX3_read_5 : decode cX3_read 5 = .ok (.aload_n 0, 1) := by decide +kernel
theorem dX3_read_6 : decode cX3_read 6 = .ok (.iconst 0, 1) := by decide +kernel
theorem dX3_read_7 : decode cX3_read 7 = .ok (.putfield 26, 3) := by decide +kernel
theorem dX3_read_10 : decode cX3_read 10 = .ok (.aload_n 0, 1) := by decide +kernel
theorem dX3_read_11 : decode cX3_read 11 = .ok (.invokevirtual 41, 3) := by decide +kernel
theorem dX3_read_14 : decode cX3_read 14 = .ok (.istore_n 1, 1) := by decide +kernel
theorem dX3_read_15 : decode cX3_read 15 = .ok (.iconst 0, 1) := by decide +kernel
theorem dX3_read_16 : decode cX3_read 16 = .ok (.istore_n 2, 1) := by decide +kernel
theorem dX3_read_17 : decode cX3_read 17 = .ok (.iload_n 2, 1) := by decide +kernel
theorem dX3_read_18 : decode cX3_read 18 = .ok (.bipush 60, 2) := by decide +kernel
theorem dX3_read_20 : decode cX3_read 20 = .ok (.if_icmp .ge 46, 3) := by decide +kernel
theorem dX3_read_23 : decode cX3_read 23 = .ok (.iload_n 1, 1) := by decide +kernel
theorem dX3_read_24 : decode cX3_read 24 = .ok (.ifCond .eq 42, 3) := by decide +kernel
theorem dX3_read_27 : decode cX3_read 27 = .ok (.aload_n 0, 1) := by decide +kernel
theorem dX3_read_28 : decode cX3_read 28 = .ok (.getfield 29, 3) := by decide +kernel
theorem dX3_read_31 : decode cX3_read 31 = .ok (.aload_n 0, 1) := by decide +kernel
theorem dX3_read_32 : decode cX3_read 32 = .ok (.getfield 22, 3) := by decide +kernel
theorem dX3_read_35 : decode cX3_read 35 = .ok (.if_icmp .ge 31, 3) := by decide +kernel
theorem dX3_read_38 : decode cX3_read 38 = .ok (.aload_n 0, 1) := by decide +kernel
theorem dX3_read_39 : decode cX3_read 39 = .ok (.bipush 59, 2) := by decide +kernel
theorem dX3_read_41 : decode cX3_read 41 = .ok (.invokevirtual 45, 3) := by decide +kernel
theorem dX3_read_44 : decode cX3_read 44 = .ok (.ifCond .eq 14, 3) := by decide +kernel
theorem dX3_read_47 : decode cX3_read 47 = .ok (.aload_n 0, 1) := by decide +kernel
theorem dX3_read_48 : decode cX3_read 48 = .ok (.invokevirtual 41, 3) := by decide +kernel
theorem dX3_read_51 : decode cX3_read 51 = .ok (.ifCond .eq 7, 3) := by decide +kernel
theorem dX3_read_54 : decode cX3_read 54 = .ok (.iconst 1, 1) := by decide +kernel
theorem dX3_read_55 : decode cX3_read 55 = .ok (.goto 4, 3) := by decide +kernel
theorem dX3_read_58 : decode cX3_read 58 = .ok (.iconst 0, 1) := by decide +kernel
theorem dX3_read_59 : decode cX3_read 59 = .ok (.istore_n 1, 1) := by decide +kernel
theorem dX3_read_60 : decode cX3_read 60 = .ok (.iinc 2 1, 3) := by decide +kernel
theorem dX3_read_63 : decode cX3_read 63 = .ok (.goto (-46), 3) := by decide +kernel
theorem dX3_read_66 : decode cX3_read 66 = .ok (.aload_n 0, 1) := by decide +kernel
theorem dX3_read_67 : decode cX3_read 67 = .ok (.iload_n 1, 1) := by decide +kernel
theorem dX3_read_68 : decode cX3_read 68 = .ok (.ifCond .eq 7, 3) := by decide +kernel
theorem dX3_read_71 : decode cX3_read 71 = .ok (.iconst (-1), 1) := by decide +kernel
theorem dX3_read_72 : decode cX3_read 72 = .ok (.goto 7, 3) := by decide +kernel
theorem dX3_read_75 : decode cX3_read 75 = .ok (.aload_n 0, 1) := by decide +kernel
theorem dX3_read_76 : decode cX3_read 76 = .ok (.getfield 29, 3) := by decide +kernel
theorem dX3_read_79 : decode cX3_read 79 = .ok (.putfield 32, 3) := by decide +kernel
theorem dX3_read_82 : decode cX3_read 82 = .ok (.iload_n 1, 1) := by decide +kernel
theorem dX3_read_83 : decode cX3_read 83 = .ok (.ireturn, 1) := by decide +kernel
theorem k_X3_read : cardV yX3_read (Cond.code yX3_read cX3_read 3 (some .boolean)) 0 := ⟨⟨qi_X3_read, qv_X3_read⟩, qc_X3_read, qn_X3, by decide +kernel, by decide +kernel, by decide +kernel⟩
set_option maxHeartbeats 4000000 in
set_option maxRecDepth 100000 in
theorem c_X3_read (l : Launch) (hfl : l.stackTraces = false) (ak av : Nat → Nat) (aS : Nat) (D : va_G) (g : Nat → ClassId) (q_this q_signs q_kinds q_numbers : Nat) (f_size : Int32) (f_count : Int32) (f_place : Int32) (f_errorPlace : Int32) (a_signs : Nat → Int32) (a_kinds : Nat → Int32) (a_numbers : Nat → Int32) (o : Nat × Int32 × Int32 × Int32 × Int32 × (Nat → Int32) × (Nat → Int32)) (h : F_X3_read f_size a_signs f_count f_place f_errorPlace a_kinds a_numbers = some o) : MX l yX3_read (Cond.code yX3_read cX3_read 3 (some .boolean)) { frames := 6, cells := 0, slots := 0, locals := 131 } ak av aS D g [.ref q_this] [(q_this, .inr (4, [.ref q_signs, .ref q_kinds, .ref q_numbers, .int f_size, .int f_count, .int f_place, .int f_errorPlace])), (q_signs, .inl (g 1, 60, .inl a_signs)), (q_kinds, .inl (g 0, 60, .inl a_kinds)), (q_numbers, .inl (g 0, 180, .inl a_numbers))] o.1 (some (.int o.2.1)) [(q_this, .inr (4, [.ref q_signs, .ref q_kinds, .ref q_numbers, .int f_size, .int o.2.2.1, .int o.2.2.2.1, .int o.2.2.2.2.1])), (q_signs, .inl (g 1, 60, .inl a_signs)), (q_kinds, .inl (g 0, 60, .inl o.2.2.2.2.2.1)), (q_numbers, .inl (g 0, 180, .inl o.2.2.2.2.2.2))] 0 0 := by
  refine z_ex_start (by decide) (Nat.le_of_ble_eq_true rfl) ?_
  intro p e s m args below meth c Q A X hr hE hA hno hQ
  refine z_lv (lv' := [(0, .ref q_this)]) rfl ?_
  have H79 : ∀ (t0 : Int32) (x1 : Int32) (f_count : Int32) (f_place : Int32) (f_errorPlace : Int32) (a_kinds : Nat → Int32) (a_numbers : Nat → Int32), J_X3_read_79 f_size a_signs t0 x1 f_count f_place f_errorPlace a_kinds a_numbers = some o → Z p l e { frames := 6, cells := 0, slots := 0, locals := 131 } s m args below meth c Q 3 0 0 (IW D A s [(q_this, .inr (4, [.ref q_signs, .ref q_kinds, .ref q_numbers, .int f_size, .int f_count, .int f_place, .int f_errorPlace])), (q_signs, .inl (g 1, 60, .inl a_signs)), (q_kinds, .inl (g 0, 60, .inl a_kinds)), (q_numbers, .inl (g 0, 180, .inl a_numbers))]) 79 [(1, .int x1)] [.int t0, .ref q_this] := by
    intro t0 x1 f_count f_place f_errorPlace a_kinds a_numbers h
    refine z_put (q0 := 0) (k := 6) (ci := 4) (ws' := [(q_this, .inr (4, [.ref q_signs, .ref q_kinds, .ref q_numbers, .int f_size, .int f_count, .int f_place, .int t0])), (q_signs, .inl (g 1, 60, .inl a_signs)), (q_kinds, .inl (g 0, 60, .inl a_kinds)), (q_numbers, .inl (g 0, 180, .inl a_numbers))]) X iw_X3 tyX3_ok nmX3 rfl qf_X3_X3_errorPlace (by decide) rfl rfl dX3_read_79 rfl rfl rfl (Nat.le_of_ble_eq_true rfl) rfl ?_
    refine z_iload_n X 0 dX3_read_82 rfl rfl ?_
    obtain ⟨e5, h⟩ := grd_p h
    cases h
    exact z_zretX X hQ (Nat.le_of_ble_eq_true rfl) (Nat.le_of_ble_eq_true rfl) hr dX3_read_83 (nar_bool e5)
  have H66 : ∀ (x1 : Int32) (f_count : Int32) (f_place : Int32) (f_errorPlace : Int32) (a_kinds : Nat → Int32) (a_numbers : Nat → Int32), J_X3_read_66 f_size a_signs x1 f_count f_place f_errorPlace a_kinds a_numbers = some o → Z p l e { frames := 6, cells := 0, slots := 0, locals := 131 } s m args below meth c Q 3 0 0 (IW D A s [(q_this, .inr (4, [.ref q_signs, .ref q_kinds, .ref q_numbers, .int f_size, .int f_count, .int f_place, .int f_errorPlace])), (q_signs, .inl (g 1, 60, .inl a_signs)), (q_kinds, .inl (g 0, 60, .inl a_kinds)), (q_numbers, .inl (g 0, 180, .inl a_numbers))]) 66 [(0, .ref q_this), (1, .int x1)] [] := by
    intro x1 f_count f_place f_errorPlace a_kinds a_numbers h
    refine z_aload_n X 0 dX3_read_66 rfl rfl ?_
    refine z_iload_n X 1 dX3_read_67 rfl rfl ?_
    refine z_if_eq X 75 dX3_read_68 (by decide) h (fun _ h => ?_) (fun _ h => ?_)
    · refine z_aload_n X 0 dX3_read_75 rfl rfl ?_
      refine z_get (q0 := 0) (k := 5) (ci := 4) X IW_P iw_X3 rfl qf_X3_X3_place (by decide) dX3_read_76 rfl rfl ?_
      refine z_widen (k := 0) (n := 0) (Nat.le_of_ble_eq_true rfl) (Nat.le_of_ble_eq_true rfl) ?_
      refine z_sub (lv' := [(1, .int x1)]) [1] rfl ?_
      exact H79 f_place x1 f_count f_place f_errorPlace a_kinds a_numbers h
    · refine z_iconst X ((-1) : Int32) dX3_read_71 (by decide) ?_
      refine z_goto X 79 dX3_read_72 (by decide) ?_
      refine z_widen (k := 0) (n := 0) (Nat.le_of_ble_eq_true rfl) (Nat.le_of_ble_eq_true rfl) ?_
      refine z_sub (lv' := [(1, .int x1)]) [1] rfl ?_
      exact H79 ((-1) : Int32) x1 f_count f_place f_errorPlace a_kinds a_numbers h
  have H17 : ∀ (n : Nat) (x1 : Int32) (x2 : Int32) (f_count : Int32) (f_place : Int32) (f_errorPlace : Int32) (a_kinds : Nat → Int32) (a_numbers : Nat → Int32), L_X3_read_17 f_size a_signs  n x1 x2 f_count f_place f_errorPlace a_kinds a_numbers = some o → Z p l e { frames := 6, cells := 0, slots := 0, locals := 131 } s m args below meth c Q 3 0 0 (IW D A s [(q_this, .inr (4, [.ref q_signs, .ref q_kinds, .ref q_numbers, .int f_size, .int f_count, .int f_place, .int f_errorPlace])), (q_signs, .inl (g 1, 60, .inl a_signs)), (q_kinds, .inl (g 0, 60, .inl a_kinds)), (q_numbers, .inl (g 0, 180, .inl a_numbers))]) 17 [(0, .ref q_this), (1, .int x1), (2, .int x2)] [] := by
    intro n
    induction n with
    | zero => intro x1 x2 f_count f_place f_errorPlace a_kinds a_numbers h; cases h
    | succ n17 ih17 =>
      intro x1 x2 f_count f_place f_errorPlace a_kinds a_numbers h
      have H59 : ∀ (t0 : Int32) (x2 : Int32) (f_count : Int32) (f_place : Int32) (f_errorPlace : Int32) (a_kinds : Nat → Int32) (a_numbers : Nat → Int32), J_X3_read_59 f_size a_signs (L_X3_read_17 f_size a_signs n17) t0 x2 f_count f_place f_errorPlace a_kinds a_numbers = some o → Z p l e { frames := 6, cells := 0, slots := 0, locals := 131 } s m args below meth c Q 3 0 0 (IW D A s [(q_this, .inr (4, [.ref q_signs, .ref q_kinds, .ref q_numbers, .int f_size, .int f_count, .int f_place, .int f_errorPlace])), (q_signs, .inl (g 1, 60, .inl a_signs)), (q_kinds, .inl (g 0, 60, .inl a_kinds)), (q_numbers, .inl (g 0, 180, .inl a_numbers))]) 59 [(0, .ref q_this), (2, .int x2)] [.int t0] := by
        intro t0 x2 f_count f_place f_errorPlace a_kinds a_numbers h
        refine z_istore_n X [(1, .int t0), (0, .ref q_this), (2, .int x2)] dX3_read_59 rfl (by decide) rfl ?_
        refine z_iinc X 2 [(2, .int (x2 + 1)), (1, .int t0), (0, .ref q_this)] dX3_read_60 rfl rfl (by decide) rfl ?_
        refine z_goto X 17 dX3_read_63 (by decide) ?_
        refine z_sub (lv' := [(0, .ref q_this), (1, .int t0), (2, .int (x2 + 1))]) [2, 1, 0] rfl ?_
        exact ih17 t0 (x2 + 1) f_count f_place f_errorPlace a_kinds a_numbers h
      have H58 : ∀ (x2 : Int32) (f_count : Int32) (f_place : Int32) (f_errorPlace : Int32) (a_kinds : Nat → Int32) (a_numbers : Nat → Int32), J_X3_read_58 f_size a_signs (L_X3_read_17 f_size a_signs n17) x2 f_count f_place f_errorPlace a_kinds a_numbers = some o → Z p l e { frames := 6, cells := 0, slots := 0, locals := 131 } s m args below meth c Q 3 0 0 (IW D A s [(q_this, .inr (4, [.ref q_signs, .ref q_kinds, .ref q_numbers, .int f_size, .int f_count, .int f_place, .int f_errorPlace])), (q_signs, .inl (g 1, 60, .inl a_signs)), (q_kinds, .inl (g 0, 60, .inl a_kinds)), (q_numbers, .inl (g 0, 180, .inl a_numbers))]) 58 [(0, .ref q_this), (2, .int x2)] [] := by
        intro x2 f_count f_place f_errorPlace a_kinds a_numbers h
        refine z_iconst X (0 : Int32) dX3_read_58 (by decide) ?_
        refine z_widen (k := 0) (n := 0) (Nat.le_of_ble_eq_true rfl) (Nat.le_of_ble_eq_true rfl) ?_
        exact H59 (0 : Int32) x2 f_count f_place f_errorPlace a_kinds a_numbers h
      refine z_iload_n X 2 dX3_read_17 rfl rfl ?_
      refine z_bipush X (60 : Int32) dX3_read_18 (by decide) ?_
      refine z_icmp_ge X 66 dX3_read_20 (by decide) h (fun _ h => ?_) (fun _ h => ?_)
      · refine z_widen (k := 0) (n := 0) (Nat.le_of_ble_eq_true rfl) (Nat.le_of_ble_eq_true rfl) ?_
        refine z_sub (lv' := [(0, .ref q_this), (1, .int x1)]) [0, 1] rfl ?_
        exact H66 x1 f_count f_place f_errorPlace a_kinds a_numbers h
      · refine z_iload_n X 1 dX3_read_23 rfl rfl ?_
        refine z_if_eq X 66 dX3_read_24 (by decide) h (fun _ h => ?_) (fun _ h => ?_)
        · refine z_widen (k := 0) (n := 0) (Nat.le_of_ble_eq_true rfl) (Nat.le_of_ble_eq_true rfl) ?_
          refine z_sub (lv' := [(0, .ref q_this), (1, .int x1)]) [0, 1] rfl ?_
          exact H66 x1 f_count f_place f_errorPlace a_kinds a_numbers h
        · refine z_aload_n X 0 dX3_read_27 rfl rfl ?_
          refine z_get (q0 := 0) (k := 5) (ci := 4) X IW_P iw_X3 rfl qf_X3_X3_place (by decide) dX3_read_28 rfl rfl ?_
          refine z_aload_n X 0 dX3_read_31 rfl rfl ?_
          refine z_get (q0 := 0) (k := 3) (ci := 4) X IW_P iw_X3 rfl qf_X3_X3_size (by decide) dX3_read_32 rfl rfl ?_
          refine z_icmp_ge X 66 dX3_read_35 (by decide) h (fun _ h => ?_) (fun _ h => ?_)
          · refine z_widen (k := 0) (n := 0) (Nat.le_of_ble_eq_true rfl) (Nat.le_of_ble_eq_true rfl) ?_
            refine z_sub (lv' := [(0, .ref q_this), (1, .int x1)]) [0, 1] rfl ?_
            exact H66 x1 f_count f_place f_errorPlace a_kinds a_numbers h
          · refine z_aload_n X 0 dX3_read_38 rfl rfl ?_
            refine z_bipush X (59 : Int32) dX3_read_39 (by decide) ?_
            obtain ⟨o6, e7, h⟩ := bnd_p h
            refine z_wrV (rest := []) (q0 := 0) (ci := 4) (ws' := [(q_this, .inr (4, [.ref q_signs, .ref q_kinds, .ref q_numbers, .int f_size, .int f_count, .int o6.2, .int f_errorPlace])), (q_signs, .inl (g 1, 60, .inl a_signs)), (q_kinds, .inl (g 0, 60, .inl a_kinds)), (q_numbers, .inl (g 0, 180, .inl a_numbers))]) (wr := [(q_kinds, .inl (g 0, 60, .inl a_kinds)), (q_numbers, .inl (g 0, 180, .inl a_numbers))]) (as := [q_this, q_signs, q_kinds, q_numbers]) X k_X3_readSign (c_X3_readSign l D g q_this q_signs q_kinds q_numbers (59 : Int32) f_size f_count f_place f_errorPlace a_signs o6 e7) ql_X3_X3_readSign dX3_read_41 [0, 1] [2, 3] ⟨rfl, rfl, rfl, rfl, rfl, rfl, rfl, rfl⟩ rfl rfl rfl rfl rfl ⟨Nat.le_of_ble_eq_true rfl, Nat.le_of_ble_eq_true rfl, rfl, rfl, Nat.le_of_ble_eq_true rfl, Nat.le_of_ble_eq_true rfl⟩ (Nat.le_of_ble_eq_true rfl) ?_
            refine z_if_eq X 58 dX3_read_44 (by decide) h (fun _ h => ?_) (fun _ h => ?_)
            · refine z_widen (k := 0) (n := 0) (Nat.le_of_ble_eq_true rfl) (Nat.le_of_ble_eq_true rfl) ?_
              refine z_sub (lv' := [(0, .ref q_this), (2, .int x2)]) [0, 2] rfl ?_
              exact H58 x2 f_count o6.2 f_errorPlace a_kinds a_numbers h
            · refine z_aload_n X 0 dX3_read_47 rfl rfl ?_
              obtain ⟨o8, e9, h⟩ := bnd_p h
              have f10 : fitsW [(q_this, .inr (4, [.ref q_signs, .ref q_kinds, .ref q_numbers, .int f_size, .int f_count, .int o6.2, .int f_errorPlace])), (q_signs, .inl (g 1, 60, .inl a_signs)), (q_kinds, .inl (g 0, 60, .inl a_kinds)), (q_numbers, .inl (g 0, 180, .inl a_numbers))] [(q_this, .inr (4, [.ref q_signs, .ref q_kinds, .ref q_numbers, .int f_size, .int o8.2.2.1, .int o8.2.2.2.1, .int f_errorPlace])), (q_signs, .inl (g 1, 60, .inl a_signs)), (q_kinds, .inl (g 0, 60, .inl o8.2.2.2.2.1)), (q_numbers, .inl (g 0, 180, .inl o8.2.2.2.2.2))] [(q_this, .inr (4, [.ref q_signs, .ref q_kinds, .ref q_numbers, .int f_size, .int f_count, .int o6.2, .int f_errorPlace])), (q_signs, .inl (g 1, 60, .inl a_signs)), (q_kinds, .inl (g 0, 60, .inl a_kinds)), (q_numbers, .inl (g 0, 180, .inl a_numbers))] [(q_this, .inr (4, [.ref q_signs, .ref q_kinds, .ref q_numbers, .int f_size, .int o8.2.2.1, .int o8.2.2.2.1, .int f_errorPlace])), (q_signs, .inl (g 1, 60, .inl a_signs)), (q_kinds, .inl (g 0, 60, .inl o8.2.2.2.2.1)), (q_numbers, .inl (g 0, 180, .inl o8.2.2.2.2.2))] [] [q_this, q_signs, q_kinds, q_numbers] [0, 1, 2, 3] [] := ⟨rfl, rfl, rfl, rfl, rfl, rfl, rfl, rfl⟩
              refine z_exV (rest := []) (q0 := 0) (ci := 4) (ws' := [(q_this, .inr (4, [.ref q_signs, .ref q_kinds, .ref q_numbers, .int f_size, .int o8.2.2.1, .int o8.2.2.2.1, .int f_errorPlace])), (q_signs, .inl (g 1, 60, .inl a_signs)), (q_kinds, .inl (g 0, 60, .inl o8.2.2.2.2.1)), (q_numbers, .inl (g 0, 180, .inl o8.2.2.2.2.2))]) X hE hA k_X3_readOrder (c_X3_readOrder l hfl ak av aS D g q_this q_signs q_kinds q_numbers f_size f_count o6.2 f_errorPlace a_signs a_kinds a_numbers o8 e9) ql_X3_X3_readOrder dX3_read_48 (bkc_of f10) (bk_of f10) rfl rfl rfl rfl rfl ⟨Nat.le_of_ble_eq_true rfl, Nat.le_of_ble_eq_true rfl, rfl, rfl, Nat.le_of_ble_eq_true rfl, Nat.le_of_ble_eq_true rfl⟩ (Nat.le_of_ble_eq_true rfl) (fun x11 => ?_) (fun x11 => ?_)
              · have h := brn_t h x11
                refine z_if_eq X 58 dX3_read_51 (by decide) h (fun _ h => ?_) (fun _ h => ?_)
                · refine z_widen (k := 0) (n := 0) (Nat.le_of_ble_eq_true rfl) (Nat.le_of_ble_eq_true rfl) ?_
                  refine z_sub (lv' := [(0, .ref q_this), (2, .int x2)]) [0, 2] rfl ?_
                  exact H58 x2 o8.2.2.1 o8.2.2.2.1 f_errorPlace o8.2.2.2.2.1 o8.2.2.2.2.2 h
                · refine z_iconst X (1 : Int32) dX3_read_54 (by decide) ?_
                  refine z_goto X 59 dX3_read_55 (by decide) ?_
                  refine z_widen (k := 0) (n := 0) (Nat.le_of_ble_eq_true rfl) (Nat.le_of_ble_eq_true rfl) ?_
                  refine z_sub (lv' := [(0, .ref q_this), (2, .int x2)]) [0, 2] rfl ?_
                  exact H59 (1 : Int32) x2 o8.2.2.1 o8.2.2.2.1 f_errorPlace o8.2.2.2.2.1 o8.2.2.2.2.2 h
              · have h := brn_f h x11
                cases h
                exact zt_out (lv := [(0, .ref q_this), (1, .int x1), (2, .int x2)]) X hno hQ x11 (Nat.le_of_ble_eq_true rfl) (Nat.le_of_ble_eq_true rfl)
  refine z_aload_n X 0 dX3_read_0 rfl rfl ?_
  refine z_iconst X (0 : Int32) dX3_read_1 (by decide) ?_
  refine z_put (q0 := 0) (k := 5) (ci := 4) (ws' := [(q_this, .inr (4, [.ref q_signs, .ref q_kinds, .ref q_numbers, .int f_size, .int f_count, .int (0 : Int32), .int f_errorPlace])), (q_signs, .inl (g 1, 60, .inl a_signs)), (q_kinds, .inl (g 0, 60, .inl a_kinds)), (q_numbers, .inl (g 0, 180, .inl a_numbers))]) X iw_X3 tyX3_ok nmX3 rfl qf_X3_X3_place (by decide) rfl rfl dX3_read_2 rfl rfl rfl (Nat.le_of_ble_eq_true rfl) rfl ?_
  refine z_aload_n X 0 dX3_read_5 rfl rfl ?_
  refine z_iconst X (0 : Int32) dX3_read_6 (by decide) ?_
  refine z_put (q0 := 0) (k := 4) (ci := 4) (ws' := [(q_this, .inr (4, [.ref q_signs, .ref q_kinds, .ref q_numbers, .int f_size, .int (0 : Int32), .int (0 : Int32), .int f_errorPlace])), (q_signs, .inl (g 1, 60, .inl a_signs)), (q_kinds, .inl (g 0, 60, .inl a_kinds)), (q_numbers, .inl (g 0, 180, .inl a_numbers))]) X iw_X3 tyX3_ok nmX3 rfl qf_X3_X3_count (by decide) rfl rfl dX3_read_7 rfl rfl rfl (Nat.le_of_ble_eq_true rfl) rfl ?_
  refine z_aload_n X 0 dX3_read_10 rfl rfl ?_
  obtain ⟨o1, e2, h⟩ := bnd_p h
  have f3 : fitsW [(q_this, .inr (4, [.ref q_signs, .ref q_kinds, .ref q_numbers, .int f_size, .int (0 : Int32), .int (0 : Int32), .int f_errorPlace])), (q_signs, .inl (g 1, 60, .inl a_signs)), (q_kinds, .inl (g 0, 60, .inl a_kinds)), (q_numbers, .inl (g 0, 180, .inl a_numbers))] [(q_this, .inr (4, [.ref q_signs, .ref q_kinds, .ref q_numbers, .int f_size, .int o1.2.2.1, .int o1.2.2.2.1, .int f_errorPlace])), (q_signs, .inl (g 1, 60, .inl a_signs)), (q_kinds, .inl (g 0, 60, .inl o1.2.2.2.2.1)), (q_numbers, .inl (g 0, 180, .inl o1.2.2.2.2.2))] [(q_this, .inr (4, [.ref q_signs, .ref q_kinds, .ref q_numbers, .int f_size, .int (0 : Int32), .int (0 : Int32), .int f_errorPlace])), (q_signs, .inl (g 1, 60, .inl a_signs)), (q_kinds, .inl (g 0, 60, .inl a_kinds)), (q_numbers, .inl (g 0, 180, .inl a_numbers))] [(q_this, .inr (4, [.ref q_signs, .ref q_kinds, .ref q_numbers, .int f_size, .int o1.2.2.1, .int o1.2.2.2.1, .int f_errorPlace])), (q_signs, .inl (g 1, 60, .inl a_signs)), (q_kinds, .inl (g 0, 60, .inl o1.2.2.2.2.1)), (q_numbers, .inl (g 0, 180, .inl o1.2.2.2.2.2))] [] [q_this, q_signs, q_kinds, q_numbers] [0, 1, 2, 3] [] := ⟨rfl, rfl, rfl, rfl, rfl, rfl, rfl, rfl⟩
  refine z_exV (rest := []) (q0 := 0) (ci := 4) (ws' := [(q_this, .inr (4, [.ref q_signs, .ref q_kinds, .ref q_numbers, .int f_size, .int o1.2.2.1, .int o1.2.2.2.1, .int f_errorPlace])), (q_signs, .inl (g 1, 60, .inl a_signs)), (q_kinds, .inl (g 0, 60, .inl o1.2.2.2.2.1)), (q_numbers, .inl (g 0, 180, .inl o1.2.2.2.2.2))]) X hE hA k_X3_readOrder (c_X3_readOrder l hfl ak av aS D g q_this q_signs q_kinds q_numbers f_size (0 : Int32) (0 : Int32) f_errorPlace a_signs a_kinds a_numbers o1 e2) ql_X3_X3_readOrder dX3_read_11 (bkc_of f3) (bk_of f3) rfl rfl rfl rfl rfl ⟨Nat.le_of_ble_eq_true rfl, Nat.le_of_ble_eq_true rfl, rfl, rfl, Nat.le_of_ble_eq_true rfl, Nat.le_of_ble_eq_true rfl⟩ (Nat.le_of_ble_eq_true rfl) (fun x4 => ?_) (fun x4 => ?_)
  · have h := brn_t h x4
    refine z_istore_n X [(1, .int o1.2.1), (0, .ref q_this)] dX3_read_14 rfl (by decide) rfl ?_
    refine z_iconst X (0 : Int32) dX3_read_15 (by decide) ?_
    refine z_istore_n X [(2, .int (0 : Int32)), (1, .int o1.2.1), (0, .ref q_this)] dX3_read_16 rfl (by decide) rfl ?_
    refine z_widen (k := 0) (n := 0) (Nat.le_of_ble_eq_true rfl) (Nat.le_of_ble_eq_true rfl) ?_
    refine z_sub (lv' := [(0, .ref q_this), (1, .int o1.2.1), (2, .int (0 : Int32))]) [2, 1, 0] rfl ?_
    exact H17 100 o1.2.1 (0 : Int32) o1.2.2.1 o1.2.2.2.1 f_errorPlace o1.2.2.2.2.1 o1.2.2.2.2.2 h
  · have h := brn_f h x4
    cases h
    exact zt_out (lv := [(0, .ref q_this)]) X hno hQ x4 (Nat.le_of_ble_eq_true rfl) (Nat.le_of_ble_eq_true rfl)

def F_X11_refusal (p1 : Int32) (f_reason_number : Int32) (f_reason_detail : Int32) : Option (Nat × Int32) :=
  bnd (F_X6_isGiven f_reason_number) (fun o1 => bnd (F_X11_demandFound o1) (fun o3 => brn (o3 = 0) (brn (p1 = 0) (some (0, f_reason_number)) (some (0, f_reason_detail))) (some (o3, (0 : Int32)))))
theorem dX11_refusal_0 : decode cX11_refusal 0 = .ok (.aload_n 0, 1) := by decide +kernel
theorem dX11_refusal_1 : decode cX11_refusal 1 = .ok (.getfield 36, 3) := by decide +kernel
theorem dX11_refusal_4 : decode cX11_refusal 4 = .ok (.invokevirtual 318, 3) := by decide +kernel
theorem dX11_refusal_7 : decode cX11_refusal 7 = .ok (.invokestatic 169, 3) := by decide +kernel
theorem dX11_refusal_10 : decode cX11_refusal 10 = .ok (.iload_n 1, 1) := by decide +kernel
theorem dX11_refusal_11 : decode cX11_refusal 11 = .ok (.ifCond .eq 13, 3) := by decide +kernel
theorem dX11_refusal_14 : decode cX11_refusal 14 = .ok (.aload_n 0, 1) := by decide +kernel
theorem dX11_refusal_15 : decode cX11_refusal 15 = .ok (.getfield 36, 3) := by decide +kernel
theorem dX11_refusal_18 : decode cX11_refusal 18 = .ok (.getfield 321, 3) := by decide +kernel
theorem dX11_refusal_21 : decode cX11_refusal 21 = .ok (.goto 10, 3) := by decide +kernel
theorem dX11_refusal_24 : decode cX11_refusal 24 = .ok (.aload_n 0, 1) := by decide +kernel
theorem dX11_refusal_25 : decode cX11_refusal 25 = .ok (.getfield 36, 3) := by decide +kernel
theorem dX11_refusal_28 : decode cX11_refusal 28 = .ok (.getfield 324, 3) := by decide +kernel
theorem dX11_refusal_31 : decode cX11_refusal 31 = .ok (.ireturn, 1) := by decide +kernel
theorem k_X11_refusal : cardV yX11_refusal (Cond.code yX11_refusal cX11_refusal 2 (some .int)) 1 := ⟨⟨qi_X11_refusal, qv_X11_refusal⟩, qc_X11_refusal, qn_X11, by decide +kernel, by decide +kernel, by decide +kernel⟩
set_option maxHeartbeats 4000000 in
set_option maxRecDepth 100000 in
theorem c_X11_refusal (l : Launch) (hfl : l.stackTraces = false) (ak av : Nat → Nat) (aS : Nat) (D : va_G) (g : Nat → ClassId) (q_this q_town q_ahead q_kept q_past q_reason q_orders q_ways q_sheet : Nat) (p1 : Int32) (f_isKept : Int32) (f_reason_number : Int32) (f_reason_detail : Int32) (o : Nat × Int32) (h : F_X11_refusal p1 f_reason_number f_reason_detail = some o) : MX l yX11_refusal (Cond.code yX11_refusal cX11_refusal 2 (some .int)) { frames := 8, cells := 1, slots := 6, locals := 130 } ak av aS D g [.ref q_this, .int p1] [(q_this, .inr (11, [.ref q_town, .ref q_ahead, .ref q_kept, .int f_isKept, .ref q_past, .ref q_reason, .ref q_orders, .ref q_ways, .ref q_sheet])), (q_reason, .inr (7, [.int f_reason_number, .int f_reason_detail]))] o.1 (some (.int o.2)) [(q_this, .inr (11, [.ref q_town, .ref q_ahead, .ref q_kept, .int f_isKept, .ref q_past, .ref q_reason, .ref q_orders, .ref q_ways, .ref q_sheet])), (q_reason, .inr (7, [.int f_reason_number, .int f_reason_detail]))] 1 6 := by
  refine z_ex_start (by decide) (Nat.le_of_ble_eq_true rfl) ?_
  intro p e s m args below meth c Q A X hr hE hA hno hQ
  refine z_lv (lv' := [(0, .ref q_this), (1, .int p1)]) rfl ?_
  refine z_aload_n X 0 dX11_refusal_0 rfl rfl ?_
  refine z_get (q0 := 0) (k := 5) (ci := 11) X IW_P iw_X11 rfl qf_X11_X11_reason (by decide) dX11_refusal_1 rfl rfl ?_
  obtain ⟨o1, e2, h⟩ := bnd_p h
  refine z_rdV (rest := []) (q0 := 1) (ci := 7) X IW_P k_X6_isGiven (c_X6_isGiven l D g q_reason f_reason_number f_reason_detail o1 e2) ql_X11_X6_isGiven dX11_refusal_4 [1] rfl rfl rfl rfl rfl rfl ⟨Nat.le_of_ble_eq_true rfl, Nat.le_of_ble_eq_true rfl, rfl, rfl, Nat.le_of_ble_eq_true rfl, Nat.le_of_ble_eq_true rfl⟩ (Nat.le_of_ble_eq_true rfl) ?_
  obtain ⟨o3, e4, h⟩ := bnd_p h
  refine z_exS (rest := []) (ws' := [(q_this, .inr (11, [.ref q_town, .ref q_ahead, .ref q_kept, .int f_isKept, .ref q_past, .ref q_reason, .ref q_orders, .ref q_ways, .ref q_sheet])), (q_reason, .inr (7, [.int f_reason_number, .int f_reason_detail]))]) X hE hA k_X11_demandFound (c_X11_demandFound l hfl ak av aS D g o1 o3 e4) ql_X11_X11_demandFound dX11_refusal_7 bkc_nil bk_nil rfl rfl ⟨Nat.le_of_ble_eq_true rfl, Nat.le_of_ble_eq_true rfl, rfl, rfl, Nat.le_of_ble_eq_true rfl, Nat.le_of_ble_eq_true rfl⟩ (Nat.le_of_ble_eq_true rfl) (fun x5 => ?_) (fun x5 => ?_)
  · have h := brn_t h x5
    refine z_iload_n X 1 dX11_refusal_10 rfl rfl ?_
    refine z_if_eq X 24 dX11_refusal_11 (by decide) h (fun _ h => ?_) (fun _ h => ?_)
    · refine z_aload_n X 0 dX11_refusal_24 rfl rfl ?_
      refine z_get (q0 := 0) (k := 5) (ci := 11) X IW_P iw_X11 rfl qf_X11_X11_reason (by decide) dX11_refusal_25 rfl rfl ?_
      refine z_getN (q0 := 1) (k := 0) (ci := 7) X IW_P iw_X6 rfl qfN_X11_X6_number (by decide) dX11_refusal_28 rfl rfl ?_
      cases h
      exact z_iretX X hQ (Nat.le_of_ble_eq_true rfl) (Nat.le_of_ble_eq_true rfl) hr dX11_refusal_31
    · refine z_aload_n X 0 dX11_refusal_14 rfl rfl ?_
      refine z_get (q0 := 0) (k := 5) (ci := 11) X IW_P iw_X11 rfl qf_X11_X11_reason (by decide) dX11_refusal_15 rfl rfl ?_
      refine z_getN (q0 := 1) (k := 1) (ci := 7) X IW_P iw_X6 rfl qfN_X11_X6_detail (by decide) dX11_refusal_18 rfl rfl ?_
      refine z_goto X 31 dX11_refusal_21 (by decide) ?_
      cases h
      exact z_iretX X hQ (Nat.le_of_ble_eq_true rfl) (Nat.le_of_ble_eq_true rfl) hr dX11_refusal_31
  · have h := brn_f h x5
    cases h
    exact zt_out (lv := [(0, .ref q_this), (1, .int p1)]) X hno hQ x5 (Nat.le_of_ble_eq_true rfl) (Nat.le_of_ble_eq_true rfl)

def F_X11_account (p1 : Int32) (f_town_hour : Int32) (f_town_day : Int32) (f_town_prankHouse : Int32) (f_town_bells : Int32) (f_town_echoes : Int32) (f_town_bellPranks : Int32) (f_town_houses_size : Int32) (f_town_halls_size : Int32) (f_town_posts_size : Int32) (a_town_posts_tolds : Nat → Int32) (a_town_blocks : Nat → Int32) (f_past_size : Int32) (f_orders_size : Int32) : Option (Nat × Int32) :=
  bnd (F_X11_isWithin p1 (0 : Int32) (12 : Int32)) (fun o1 => bnd (F_X11_demandProper o1) (fun o3 => brn (o3 = 0) (brn (p1 = (11 : Int32)) (bnd (F_X3_size f_orders_size) (fun o6 => some (0, o6))) (brn (p1 = (12 : Int32)) (bnd (F_X4_size f_past_size) (fun o8 => some (0, o8))) (bnd (F_X9_countOf p1 f_town_hour f_town_day f_town_prankHouse f_town_bells f_town_echoes f_town_bellPranks f_town_houses_size f_town_halls_size f_town_posts_size a_town_posts_tolds a_town_blocks) (fun o10 => some (0, o10))))) (some (o3, (0 : Int32)))))
theorem dX11_account_0 : decode cX11_account 0 = .ok (.iload_n 1, 1) := by decide +kernel
theorem dX11_account_1 : decode cX11_account 1 = .ok (.iconst 0, 1) := by decide +kernel
theorem dX11_account_2 : decode cX11_account 2 = .ok (.bipush 12, 2) := by decide +kernel
theorem dX11_account_4 : decode cX11_account 4 = .ok (.invokestatic 120, 3) := by decide +kernel
theorem dX11_account_7 : decode cX11_account 7 = .ok (.invokestatic 124, 3) := by decide +kernel
theorem dX11_account_10 : decode cX11_account 10 = .ok (.iload_n 1, 1) := by decide +kernel
theorem dX11_account_11 : decode cX11_account 11 = .ok (.bipush 11, 2) := by decide +kernel
theorem dX11_account_13 : decode cX11_account 13 = .ok (.if_icmp .ne 11, 3) := by decide +kernel
theorem dX11_account_16 : decode cX11_account 16 = .ok (.aload_n 0, 1) := by decide +kernel
theorem dX11_account_17 : decode cX11_account 17 = .ok (.getfield 43, 3) := by decide +kernel
theorem dX11_account_20 : decode cX11_account 20 = .ok (.invokevirtual 327, 3) := by decide +kernel
theorem dX11_account_23 : decode cX11_account 23 = .ok (.ireturn, 1) := by decide +kernel
theorem dX11_account_24 : decode cX11_account 24 = .ok (.iload_n 1, 1) := by decide +kernel
theorem dX11_account_25 : decode cX11_account 25 = .ok (.bipush 12, 2) := by decide +kernel
theorem dX11_account_27 : decode cX11_account 27 = .ok (.if_icmp .ne 11, 3) := by decide +kernel
theorem dX11_account_30 : decode cX11_account 30 = .ok (.aload_n 0, 1) := by decide +kernel
theorem dX11_account_31 : decode cX11_account 31 = .ok (.getfield 29, 3) := by decide +kernel
theorem dX11_account_34 : decode cX11_account 34 = .ok (.invokevirtual 330, 3) := by decide +kernel
theorem dX11_account_37 : decode cX11_account 37 = .ok (.ireturn, 1) := by decide +kernel
theorem dX11_account_38 : decode cX11_account 38 = .ok (.aload_n 0, 1) := by decide +kernel
theorem dX11_account_39 : decode cX11_account 39 = .ok (.getfield 10, 3) := by decide +kernel
theorem dX11_account_42 : decode cX11_account 42 = .ok (.iload_n 1, 1) := by decide +kernel
theorem dX11_account_43 : decode cX11_account 43 = .ok (.invokevirtual 331, 3) := by decide +kernel
theorem dX11_account_46 : decode cX11_account 46 = .ok (.ireturn, 1) := by decide +kernel
theorem k_X11_account : cardV yX11_account (Cond.code yX11_account cX11_account 2 (some .int)) 1 := ⟨⟨qi_X11_account, qv_X11_account⟩, qc_X11_account, qn_X11, by decide +kernel, by decide +kernel, by decide +kernel⟩
set_option maxHeartbeats 4000000 in
set_option maxRecDepth 100000 in
theorem c_X11_account (l : Launch) (hfl : l.stackTraces = false) (ak av : Nat → Nat) (aS : Nat) (D : va_G) (g : Nat → ClassId) (q_this q_town q_ahead q_kept q_past q_reason q_orders q_ways q_sheet q_town_houses q_town_halls q_town_posts q_town_blocks q_town_kinds q_town_houses_cells q_town_houses_froms q_town_houses_tos q_town_houses_rings q_town_houses_pranks q_town_halls_rows q_town_halls_firsts q_town_halls_lasts q_town_posts_cells q_town_posts_tolds q_past_towns q_orders_signs q_orders_kinds q_orders_numbers : Nat) (p1 : Int32) (f_isKept : Int32) (f_town_hour : Int32) (f_town_day : Int32) (f_town_prankHouse : Int32) (f_town_bells : Int32) (f_town_echoes : Int32) (f_town_bellPranks : Int32) (f_town_houses_size : Int32) (f_town_halls_size : Int32) (f_town_posts_size : Int32) (a_town_posts_tolds : Nat → Int32) (a_town_blocks : Nat → Int32) (f_past_size : Int32) (f_past_next : Int32) (f_orders_size : Int32) (f_orders_count : Int32) (f_orders_place : Int32) (f_orders_errorPlace : Int32) (o : Nat × Int32) (h : F_X11_account p1 f_town_hour f_town_day f_town_prankHouse f_town_bells f_town_echoes f_town_bellPranks f_town_houses_size f_town_halls_size f_town_posts_size a_town_posts_tolds a_town_blocks f_past_size f_orders_size = some o) : MX l yX11_account (Cond.code yX11_account cX11_account 2 (some .int)) { frames := 8, cells := 1, slots := 6, locals := 130 } ak av aS D g [.ref q_this, .int p1] [(q_this, .inr (11, [.ref q_town, .ref q_ahead, .ref q_kept, .int f_isKept, .ref q_past, .ref q_reason, .ref q_orders, .ref q_ways, .ref q_sheet])), (q_town, .inr (9, [.ref q_town_houses, .ref q_town_halls, .ref q_town_posts, .ref q_town_blocks, .ref q_town_kinds, .int f_town_hour, .int f_town_day, .int f_town_prankHouse, .int f_town_bells, .int f_town_echoes, .int f_town_bellPranks])), (q_town_houses, .inr (3, [.int f_town_houses_size, .ref q_town_houses_cells, .ref q_town_houses_froms, .ref q_town_houses_tos, .ref q_town_houses_rings, .ref q_town_houses_pranks])), (q_town_halls, .inr (2, [.int f_town_halls_size, .ref q_town_halls_rows, .ref q_town_halls_firsts, .ref q_town_halls_lasts])), (q_town_posts, .inr (6, [.int f_town_posts_size, .ref q_town_posts_cells, .ref q_town_posts_tolds])), (q_town_posts_tolds, .inl (g 0, 4, .inl a_town_posts_tolds)), (q_town_blocks, .inl (g 0, 64, .inl a_town_blocks)), (q_past, .inr (5, [.ref q_past_towns, .int f_past_size, .int f_past_next])), (q_orders, .inr (4, [.ref q_orders_signs, .ref q_orders_kinds, .ref q_orders_numbers, .int f_orders_size, .int f_orders_count, .int f_orders_place, .int f_orders_errorPlace]))] o.1 (some (.int o.2)) [(q_this, .inr (11, [.ref q_town, .ref q_ahead, .ref q_kept, .int f_isKept, .ref q_past, .ref q_reason, .ref q_orders, .ref q_ways, .ref q_sheet])), (q_town, .inr (9, [.ref q_town_houses, .ref q_town_halls, .ref q_town_posts, .ref q_town_blocks, .ref q_town_kinds, .int f_town_hour, .int f_town_day, .int f_town_prankHouse, .int f_town_bells, .int f_town_echoes, .int f_town_bellPranks])), (q_town_houses, .inr (3, [.int f_town_houses_size, .ref q_town_houses_cells, .ref q_town_houses_froms, .ref q_town_houses_tos, .ref q_town_houses_rings, .ref q_town_houses_pranks])), (q_town_halls, .inr (2, [.int f_town_halls_size, .ref q_town_halls_rows, .ref q_town_halls_firsts, .ref q_town_halls_lasts])), (q_town_posts, .inr (6, [.int f_town_posts_size, .ref q_town_posts_cells, .ref q_town_posts_tolds])), (q_town_posts_tolds, .inl (g 0, 4, .inl a_town_posts_tolds)), (q_town_blocks, .inl (g 0, 64, .inl a_town_blocks)), (q_past, .inr (5, [.ref q_past_towns, .int f_past_size, .int f_past_next])), (q_orders, .inr (4, [.ref q_orders_signs, .ref q_orders_kinds, .ref q_orders_numbers, .int f_orders_size, .int f_orders_count, .int f_orders_place, .int f_orders_errorPlace]))] 1 6 := by
  refine z_ex_start (by decide) (Nat.le_of_ble_eq_true rfl) ?_
  intro p e s m args below meth c Q A X hr hE hA hno hQ
  refine z_lv (lv' := [(0, .ref q_this), (1, .int p1)]) rfl ?_
  refine z_iload_n X 1 dX11_account_0 rfl rfl ?_
  refine z_iconst X (0 : Int32) dX11_account_1 (by decide) ?_
  refine z_bipush X (12 : Int32) dX11_account_2 (by decide) ?_
  obtain ⟨o1, e2, h⟩ := bnd_p h
  refine z_rdS (rest := []) X IW_P k_X11_isWithin (c_X11_isWithin l D g p1 (0 : Int32) (12 : Int32) o1 e2) ql_X11_X11_isWithin dX11_account_4 [] rfl rfl rfl ⟨Nat.le_of_ble_eq_true rfl, Nat.le_of_ble_eq_true rfl, rfl, rfl, Nat.le_of_ble_eq_true rfl, Nat.le_of_ble_eq_true rfl⟩ (Nat.le_of_ble_eq_true rfl) ?_
  obtain ⟨o3, e4, h⟩ := bnd_p h
  refine z_exS (rest := []) (ws' := [(q_this, .inr (11, [.ref q_town, .ref q_ahead, .ref q_kept, .int f_isKept, .ref q_past, .ref q_reason, .ref q_orders, .ref q_ways, .ref q_sheet])), (q_town, .inr (9, [.ref q_town_houses, .ref q_town_halls, .ref q_town_posts, .ref q_town_blocks, .ref q_town_kinds, .int f_town_hour, .int f_town_day, .int f_town_prankHouse, .int f_town_bells, .int f_town_echoes, .int f_town_bellPranks])), (q_town_houses, .inr (3, [.int f_town_houses_size, .ref q_town_houses_cells, .ref q_town_houses_froms, .ref q_town_houses_tos, .ref q_town_houses_rings, .ref q_town_houses_pranks])), (q_town_halls, .inr (2, [.int f_town_halls_size, .ref q_town_halls_rows, .ref q_town_halls_firsts, .ref q_town_halls_lasts])), (q_town_posts, .inr (6, [.int f_town_posts_size, .ref q_town_posts_cells, .ref q_town_posts_tolds])), (q_town_posts_tolds, .inl (g 0, 4, .inl a_town_posts_tolds)), (q_town_blocks, .inl (g 0, 64, .inl a_town_blocks)), (q_past, .inr (5, [.ref q_past_towns, .int f_past_size, .int f_past_next])), (q_orders, .inr (4, [.ref q_orders_signs, .ref q_orders_kinds, .ref q_orders_numbers, .int f_orders_size, .int f_orders_count, .int f_orders_place, .int f_orders_errorPlace]))]) X hE hA k_X11_demandProper (c_X11_demandProper l hfl ak av aS D g o1 o3 e4) ql_X11_X11_demandProper dX11_account_7 bkc_nil bk_nil rfl rfl ⟨Nat.le_of_ble_eq_true rfl, Nat.le_of_ble_eq_true rfl, rfl, rfl, Nat.le_of_ble_eq_true rfl, Nat.le_of_ble_eq_true rfl⟩ (Nat.le_of_ble_eq_true rfl) (fun x5 => ?_) (fun x5 => ?_)
  · have h := brn_t h x5
    refine z_iload_n X 1 dX11_account_10 rfl rfl ?_
    refine z_bipush X (11 : Int32) dX11_account_11 (by decide) ?_
    refine z_icmp_ne X 24 dX11_account_13 (by decide) h (fun _ h => ?_) (fun _ h => ?_)
    · refine z_aload_n X 0 dX11_account_16 rfl rfl ?_
      refine z_get (q0 := 0) (k := 6) (ci := 11) X IW_P iw_X11 rfl qf_X11_X11_orders (by decide) dX11_account_17 rfl rfl ?_
      obtain ⟨o6, e7, h⟩ := bnd_p h
      refine z_rdV (rest := []) (q0 := 8) (ci := 4) X IW_P k_X3_size (c_X3_size l D g q_orders q_orders_signs q_orders_kinds q_orders_numbers f_orders_size f_orders_count f_orders_place f_orders_errorPlace o6 e7) ql_X11_X3_size dX11_account_20 [8] rfl rfl rfl rfl rfl rfl ⟨Nat.le_of_ble_eq_true rfl, Nat.le_of_ble_eq_true rfl, rfl, rfl, Nat.le_of_ble_eq_true rfl, Nat.le_of_ble_eq_true rfl⟩ (Nat.le_of_ble_eq_true rfl) ?_
      cases h
      exact z_iretX X hQ (Nat.le_of_ble_eq_true rfl) (Nat.le_of_ble_eq_true rfl) hr dX11_account_23
    · refine z_iload_n X 1 dX11_account_24 rfl rfl ?_
      refine z_bipush X (12 : Int32) dX11_account_25 (by decide) ?_
      refine z_icmp_ne X 38 dX11_account_27 (by decide) h (fun _ h => ?_) (fun _ h => ?_)
      · refine z_aload_n X 0 dX11_account_30 rfl rfl ?_
        refine z_get (q0 := 0) (k := 4) (ci := 11) X IW_P iw_X11 rfl qf_X11_X11_past (by decide) dX11_account_31 rfl rfl ?_
        obtain ⟨o8, e9, h⟩ := bnd_p h
        refine z_rdV (rest := []) (q0 := 7) (ci := 5) X IW_P k_X4_size (c_X4_size l D g q_past q_past_towns f_past_size f_past_next o8 e9) ql_X11_X4_size dX11_account_34 [7] rfl rfl rfl rfl rfl rfl ⟨Nat.le_of_ble_eq_true rfl, Nat.le_of_ble_eq_true rfl, rfl, rfl, Nat.le_of_ble_eq_true rfl, Nat.le_of_ble_eq_true rfl⟩ (Nat.le_of_ble_eq_true rfl) ?_
        cases h
        exact z_iretX X hQ (Nat.le_of_ble_eq_true rfl) (Nat.le_of_ble_eq_true rfl) hr dX11_account_37
      · refine z_aload_n X 0 dX11_account_38 rfl rfl ?_
        refine z_get (q0 := 0) (k := 0) (ci := 11) X IW_P iw_X11 rfl qf_X11_X11_town (by decide) dX11_account_39 rfl rfl ?_
        refine z_iload_n X 1 dX11_account_42 rfl rfl ?_
        obtain ⟨o10, e11, h⟩ := bnd_p h
        refine z_rdV (rest := []) (q0 := 1) (ci := 9) X IW_P k_X9_countOf (c_X9_countOf l D g q_town q_town_houses q_town_halls q_town_posts q_town_blocks q_town_kinds q_town_houses_cells q_town_houses_froms q_town_houses_tos q_town_houses_rings q_town_houses_pranks q_town_halls_rows q_town_halls_firsts q_town_halls_lasts q_town_posts_cells q_town_posts_tolds p1 f_town_hour f_town_day f_town_prankHouse f_town_bells f_town_echoes f_town_bellPranks f_town_houses_size f_town_halls_size f_town_posts_size a_town_posts_tolds a_town_blocks o10 e11) ql_X11_X9_countOf dX11_account_43 [1, 2, 3, 4, 5, 6] rfl rfl rfl rfl rfl rfl ⟨Nat.le_of_ble_eq_true rfl, Nat.le_of_ble_eq_true rfl, rfl, rfl, Nat.le_of_ble_eq_true rfl, Nat.le_of_ble_eq_true rfl⟩ (Nat.le_of_ble_eq_true rfl) ?_
        cases h
        exact z_iretX X hQ (Nat.le_of_ble_eq_true rfl) (Nat.le_of_ble_eq_true rfl) hr dX11_account_46
  · have h := brn_f h x5
    cases h
    exact zt_out (lv := [(0, .ref q_this), (1, .int p1)]) X hno hQ x5 (Nat.le_of_ble_eq_true rfl) (Nat.le_of_ble_eq_true rfl)

def F_X11_demandDivisor (p0 : Int32) : Option (Nat) :=
  brn (0 < p0) (some (0)) (some (6))
theorem dX11_demandDivisor_0 : decode cX11_demandDivisor 0 = .ok (.iload_n 0, 1) := by decide +kernel
theorem dX11_demandDivisor_1 : decode cX11_demandDivisor 1 = .ok (.ifCond .gt 14, 3) := by decide +kernel
theorem dX11_demandDivisor_4 : decode cX11_demandDivisor 4 = .ok (.new 385, 3) := by decide +kernel
theorem dX11_demandDivisor_7 : decode cX11_demandDivisor 7 = .ok (.dup, 1) := by decide +kernel
theorem dX11_demandDivisor_8 : decode cX11_demandDivisor 8 = .ok (.ldc_w 387, 3) := by decide +kernel
theorem dX11_demandDivisor_11 : decode cX11_demandDivisor 11 = .ok (.invokespecial 389, 3) := by decide +kernel
theorem dX11_demandDivisor_14 : decode cX11_demandDivisor 14 = .ok (.athrow, 1) := by decide +kernel
theorem dX11_demandDivisor_15 : decode cX11_demandDivisor 15 = .ok (.return_, 1) := by decide +kernel
theorem k_X11_demandDivisor : cardS yX11_demandDivisor (Cond.code yX11_demandDivisor cX11_demandDivisor 1 none) 1 := ⟨qs_X11_demandDivisor, qc_X11_demandDivisor, qn_X11, by decide +kernel, by decide +kernel, by decide +kernel⟩
set_option maxHeartbeats 4000000 in
set_option maxRecDepth 100000 in
theorem c_X11_demandDivisor (l : Launch) (hfl : l.stackTraces = false) (ak av : Nat → Nat) (aS : Nat) (D : va_G) (g : Nat → ClassId) (p0 : Int32) (o : Nat) (h : F_X11_demandDivisor p0 = some o) : MX l yX11_demandDivisor (Cond.code yX11_demandDivisor cX11_demandDivisor 1 none) { frames := 7, cells := 1, slots := 6, locals := 110 } ak av aS D g [.int p0] [] o none [] 1 6 := by
  refine z_ex_start (by decide) (Nat.le_of_ble_eq_true rfl) ?_
  intro p e s m args below meth c Q A X hr hE hA hno hQ
  refine z_lv (lv' := [(0, .int p0)]) rfl ?_
  refine z_iload_n X 0 dX11_demandDivisor_0 rfl rfl ?_
  refine z_if_gt X 15 dX11_demandDivisor_1 (by decide) h (fun _ h => ?_) (fun _ h => ?_)
  · cases h
    exact z_vretX X hQ (Nat.le_of_ble_eq_true rfl) (Nat.le_of_ble_eq_true rfl) hr dX11_demandDivisor_15
  · cases h
    exact z_throw (names := ["java/lang/RuntimeException", "java/lang/Exception"]) (si := 5) X hE hno hfl hQ (by decide) (by decide +kernel) (by decide +kernel) rfl qk_X11_ArithmeticException qn_ArithmeticException (by decide) rfl rfl xt_6 xg_6 dX11_demandDivisor_4 dX11_demandDivisor_7 dX11_demandDivisor_8 dX11_demandDivisor_11 dX11_demandDivisor_14 (by decide) (Nat.le_of_ble_eq_true rfl) (Nat.le_of_ble_eq_true rfl) (Nat.le_of_ble_eq_true rfl) (Nat.le_of_ble_eq_true rfl) (Nat.le_of_ble_eq_true rfl)

def F_X11_meanSleep (f_town_houses_size : Int32) (a_town_houses_froms : Nat → Int32) (a_town_houses_tos : Nat → Int32) : Option (Nat × UInt64) :=
  bnd (F_X2_size f_town_houses_size) (fun o1 => bnd (F_X11_demandDivisor o1) (fun o3 => brn (o3 = 0) (bnd (F_X2_sleepSum f_town_houses_size a_town_houses_froms a_town_houses_tos) (fun o6 => bnd (F_X2_size f_town_houses_size) (fun o8 => grd (FP.ddiv (FP.i2d o6) (FP.i2d o8) &&& 0x7fffffffffffffff ≤ 0x7ff0000000000000) (some (0, FP.ddiv (FP.i2d o6) (FP.i2d o8)))))) (some (o3, (0 : UInt64)))))
theorem dX11_meanSleep_0 : decode cX11_meanSleep 0 = .ok (.aload_n 0, 1) := by decide +kernel
theorem dX11_meanSleep_1 : decode cX11_meanSleep 1 = .ok (.getfield 10, 3) := by decide +kernel
theorem dX11_meanSleep_4 : decode cX11_meanSleep 4 = .ok (.getfield 73, 3) := by decide +kernel
theorem dX11_meanSleep_7 : decode cX11_meanSleep 7 = .ok (.invokevirtual 344, 3) := by decide +kernel
theorem dX11_meanSleep_10 : decode cX11_meanSleep 10 = .ok (.invokestatic 345, 3) := by decide +kernel
theorem dX11_meanSleep_13 : decode cX11_meanSleep 13 = .ok (.aload_n 0, 1) := by decide +kernel
theorem dX11_meanSleep_14 : decode cX11_meanSleep 14 = .ok (.getfield 10, 3) := by decide +kernel
theorem dX11_meanSleep_17 : decode cX11_meanSleep 17 = .ok (.getfield 73, 3) := by decide +kernel
theorem dX11_meanSleep_20 : decode cX11_meanSleep 20 = .ok (.invokevirtual 348, 3) := by decide +kernel
theorem dX11_meanSleep_23 : decode cX11_meanSleep 23 = .ok (.i2d, 1) := by decide +kernel
theorem dX11_meanSleep_24 : decode cX11_meanSleep 24 = .ok (.aload_n 0, 1) := by decide +kernel
theorem dX11_meanSleep_25 : decode cX11_meanSleep 25 = .ok (.getfield 10, 3) := by decide +kernel
theorem dX11_meanSleep_28 : decode cX11_meanSleep 28 = .ok (.getfield 73, 3) := by decide +kernel
theorem dX11_meanSleep_31 : decode cX11_meanSleep 31 = .ok (.invokevirtual 344, 3) := by decide +kernel
theorem dX11_meanSleep_34 : decode cX11_meanSleep 34 = .ok (.i2d, 1) := by decide +kernel
theorem dX11_meanSleep_35 : decode cX11_meanSleep 35 = .ok (.ddiv, 1) := by decide +kernel
theorem dX11_meanSleep_36 : decode cX11_meanSleep 36 = .ok (.dreturn, 1) := by decide +kernel
theorem k_X11_meanSleep : cardV yX11_meanSleep (Cond.code yX11_meanSleep cX11_meanSleep 1 (some .double)) 0 := ⟨⟨qi_X11_meanSleep, qv_X11_meanSleep⟩, qc_X11_meanSleep, qn_X11, by decide +kernel, by decide +kernel, by decide +kernel⟩
set_option maxHeartbeats 4000000 in
set_option maxRecDepth 100000 in
theorem c_X11_meanSleep (l : Launch) (hfl : l.stackTraces = false) (ak av : Nat → Nat) (aS : Nat) (D : va_G) (g : Nat → ClassId) (q_this q_town q_ahead q_kept q_past q_reason q_orders q_ways q_sheet q_town_houses q_town_halls q_town_posts q_town_blocks q_town_kinds q_town_houses_cells q_town_houses_froms q_town_houses_tos q_town_houses_rings q_town_houses_pranks : Nat) (f_isKept : Int32) (f_town_hour : Int32) (f_town_day : Int32) (f_town_prankHouse : Int32) (f_town_bells : Int32) (f_town_echoes : Int32) (f_town_bellPranks : Int32) (f_town_houses_size : Int32) (a_town_houses_froms : Nat → Int32) (a_town_houses_tos : Nat → Int32) (o : Nat × UInt64) (h : F_X11_meanSleep f_town_houses_size a_town_houses_froms a_town_houses_tos = some o) : MX l yX11_meanSleep (Cond.code yX11_meanSleep cX11_meanSleep 1 (some .double)) { frames := 8, cells := 1, slots := 6, locals := 130 } ak av aS D g [.ref q_this] [(q_this, .inr (11, [.ref q_town, .ref q_ahead, .ref q_kept, .int f_isKept, .ref q_past, .ref q_reason, .ref q_orders, .ref q_ways, .ref q_sheet])), (q_town, .inr (9, [.ref q_town_houses, .ref q_town_halls, .ref q_town_posts, .ref q_town_blocks, .ref q_town_kinds, .int f_town_hour, .int f_town_day, .int f_town_prankHouse, .int f_town_bells, .int f_town_echoes, .int f_town_bellPranks])), (q_town_houses, .inr (3, [.int f_town_houses_size, .ref q_town_houses_cells, .ref q_town_houses_froms, .ref q_town_houses_tos, .ref q_town_houses_rings, .ref q_town_houses_pranks])), (q_town_houses_froms, .inl (g 0, 10, .inl a_town_houses_froms)), (q_town_houses_tos, .inl (g 0, 10, .inl a_town_houses_tos))] o.1 (some (.double o.2)) [(q_this, .inr (11, [.ref q_town, .ref q_ahead, .ref q_kept, .int f_isKept, .ref q_past, .ref q_reason, .ref q_orders, .ref q_ways, .ref q_sheet])), (q_town, .inr (9, [.ref q_town_houses, .ref q_town_halls, .ref q_town_posts, .ref q_town_blocks, .ref q_town_kinds, .int f_town_hour, .int f_town_day, .int f_town_prankHouse, .int f_town_bells, .int f_town_echoes, .int f_town_bellPranks])), (q_town_houses, .inr (3, [.int f_town_houses_size, .ref q_town_houses_cells, .ref q_town_houses_froms, .ref q_town_houses_tos, .ref q_town_houses_rings, .ref q_town_houses_pranks])), (q_town_houses_froms, .inl (g 0, 10, .inl a_town_houses_froms)), (q_town_houses_tos, .inl (g 0, 10, .inl a_town_houses_tos))] 1 6 := by
  refine z_ex_start (by decide) (Nat.le_of_ble_eq_true rfl) ?_
  intro p e s m args below meth c Q A X hr hE hA hno hQ
  refine z_lv (lv' := [(0, .ref q_this)]) rfl ?_
  refine z_aload_n X 0 dX11_meanSleep_0 rfl rfl ?_
  refine z_get (q0 := 0) (k := 0) (ci := 11) X IW_P iw_X11 rfl qf_X11_X11_town (by decide) dX11_meanSleep_1 rfl rfl ?_
  refine z_getN (q0 := 1) (k := 0) (ci := 9) X IW_P iw_X9 rfl qfN_X11_X9_houses (by decide) dX11_meanSleep_4 rfl rfl ?_
  obtain ⟨o1, e2, h⟩ := bnd_p h
  refine z_rdV (rest := []) (q0 := 2) (ci := 3) X IW_P k_X2_size (c_X2_size l D g q_town_houses q_town_houses_cells q_town_houses_froms q_town_houses_tos q_town_houses_rings q_town_houses_pranks f_town_houses_size o1 e2) ql_X11_X2_size dX11_meanSleep_7 [2] rfl rfl rfl rfl rfl rfl ⟨Nat.le_of_ble_eq_true rfl, Nat.le_of_ble_eq_true rfl, rfl, rfl, Nat.le_of_ble_eq_true rfl, Nat.le_of_ble_eq_true rfl⟩ (Nat.le_of_ble_eq_true rfl) ?_
  obtain ⟨o3, e4, h⟩ := bnd_p h
  refine z_exS (rest := []) (ws' := [(q_this, .inr (11, [.ref q_town, .ref q_ahead, .ref q_kept, .int f_isKept, .ref q_past, .ref q_reason, .ref q_orders, .ref q_ways, .ref q_sheet])), (q_town, .inr (9, [.ref q_town_houses, .ref q_town_halls, .ref q_town_posts, .ref q_town_blocks, .ref q_town_kinds, .int f_town_hour, .int f_town_day, .int f_town_prankHouse, .int f_town_bells, .int f_town_echoes, .int f_town_bellPranks])), (q_town_houses, .inr (3, [.int f_town_houses_size, .ref q_town_houses_cells, .ref q_town_houses_froms, .ref q_town_houses_tos, .ref q_town_houses_rings, .ref q_town_houses_pranks])), (q_town_houses_froms, .inl (g 0, 10, .inl a_town_houses_froms)), (q_town_houses_tos, .inl (g 0, 10, .inl a_town_houses_tos))]) X hE hA k_X11_demandDivisor (c_X11_demandDivisor l hfl ak av aS D g o1 o3 e4) ql_X11_X11_demandDivisor dX11_meanSleep_10 bkc_nil bk_nil rfl rfl ⟨Nat.le_of_ble_eq_true rfl, Nat.le_of_ble_eq_true rfl, rfl, rfl, Nat.le_of_ble_eq_true rfl, Nat.le_of_ble_eq_true rfl⟩ (Nat.le_of_ble_eq_true rfl) (fun x5 => ?_) (fun x5 => ?_)
  · have h := brn_t h x5
    refine z_aload_n X 0 dX11_meanSleep_13 rfl rfl ?_
    refine z_get (q0 := 0) (k := 0) (ci := 11) X IW_P iw_X11 rfl qf_X11_X11_town (by decide) dX11_meanSleep_14 rfl rfl ?_
    refine z_getN (q0 := 1) (k := 0) (ci := 9) X IW_P iw_X9 rfl qfN_X11_X9_houses (by decide) dX11_meanSleep_17 rfl rfl ?_
    obtain ⟨o6, e7, h⟩ := bnd_p h
    refine z_rdV (rest := []) (q0 := 2) (ci := 3) X IW_P k_X2_sleepSum (c_X2_sleepSum l D g q_town_houses q_town_houses_cells q_town_houses_froms q_town_houses_tos q_town_houses_rings q_town_houses_pranks f_town_houses_size a_town_houses_froms a_town_houses_tos o6 e7) ql_X11_X2_sleepSum dX11_meanSleep_20 [2, 3, 4] rfl rfl rfl rfl rfl rfl ⟨Nat.le_of_ble_eq_true rfl, Nat.le_of_ble_eq_true rfl, rfl, rfl, Nat.le_of_ble_eq_true rfl, Nat.le_of_ble_eq_true rfl⟩ (Nat.le_of_ble_eq_true rfl) ?_
    refine z_i2d X dX11_meanSleep_23 ?_
    refine z_aload_n X 0 dX11_meanSleep_24 rfl rfl ?_
    refine z_get (q0 := 0) (k := 0) (ci := 11) X IW_P iw_X11 rfl qf_X11_X11_town (by decide) dX11_meanSleep_25 rfl rfl ?_
    refine z_getN (q0 := 1) (k := 0) (ci := 9) X IW_P iw_X9 rfl qfN_X11_X9_houses (by decide) dX11_meanSleep_28 rfl rfl ?_
    obtain ⟨o8, e9, h⟩ := bnd_p h
    refine z_rdV (rest := [.double (FP.i2d o6)]) (q0 := 2) (ci := 3) X IW_P k_X2_size (c_X2_size l D g q_town_houses q_town_houses_cells q_town_houses_froms q_town_houses_tos q_town_houses_rings q_town_houses_pranks f_town_houses_size o8 e9) ql_X11_X2_size dX11_meanSleep_31 [2] rfl rfl rfl rfl rfl rfl ⟨Nat.le_of_ble_eq_true rfl, Nat.le_of_ble_eq_true rfl, rfl, rfl, Nat.le_of_ble_eq_true rfl, Nat.le_of_ble_eq_true rfl⟩ (Nat.le_of_ble_eq_true rfl) ?_
    refine z_i2d X dX11_meanSleep_34 ?_
    obtain ⟨e10, h⟩ := grd_p h
    refine z_ddiv X e10 dX11_meanSleep_35 ?_
    cases h
    exact z_dretX X hQ (Nat.le_of_ble_eq_true rfl) (Nat.le_of_ble_eq_true rfl) hr dX11_meanSleep_36
  · have h := brn_f h x5
    cases h
    exact zt_out (lv := [(0, .ref q_this)]) X hno hQ x5 (Nat.le_of_ble_eq_true rfl) (Nat.le_of_ble_eq_true rfl)

def F_X11_prankShare (a_town_kinds : Nat → Int32) : Option (Nat × UInt32) :=
  bnd (F_X9_countRings a_town_kinds) (fun o1 => bnd (F_X11_demandDivisor o1) (fun o3 => brn (o3 = 0) (bnd (F_X9_countKind (3 : Int32) a_town_kinds) (fun o6 => bnd (F_X9_countRings a_town_kinds) (fun o8 => grd (FP.fdiv (FP.i2f o6) (FP.i2f o8) &&& 0x7fffffff ≤ 0x7f800000) (some (0, FP.fdiv (FP.i2f o6) (FP.i2f o8)))))) (some (o3, (0 : UInt32)))))
theorem dX11_prankShare_0 : decode cX11_prankShare 0 = .ok (.aload_n 0, 1) := by decide +kernel
theorem dX11_prankShare_1 : decode cX11_prankShare 1 = .ok (.getfield 10, 3) := by decide +kernel
theorem dX11_prankShare_4 : decode cX11_prankShare 4 = .ok (.invokevirtual 351, 3) := by decide +kernel
theorem dX11_prankShare_7 : decode cX11_prankShare 7 = .ok (.invokestatic 345, 3) := by decide +kernel
theorem dX11_prankShare_10 : decode cX11_prankShare 10 = .ok (.aload_n 0, 1) := by decide +kernel
theorem dX11_prankShare_11 : decode cX11_prankShare 11 = .ok (.getfield 10, 3) := by decide +kernel
theorem dX11_prankShare_14 : decode cX11_prankShare 14 = .ok (.iconst 3, 1) := by decide +kernel
theorem dX11_prankShare_15 : decode cX11_prankShare 15 = .ok (.invokevirtual 194, 3) := by decide +kernel
theorem dX11_prankShare_18 : decode cX11_prankShare 18 = .ok (.i2f, 1) := by decide +kernel
theorem dX11_prankShare_19 : decode cX11_prankShare 19 = .ok (.aload_n 0, 1) := by decide +kernel
theorem dX11_prankShare_20 : decode cX11_prankShare 20 = .ok (.getfield 10, 3) := by decide +kernel
theorem dX11_prankShare_23 : decode cX11_prankShare 23 = .ok (.invokevirtual 351, 3) := by decide +kernel
theorem dX11_prankShare_26 : decode cX11_prankShare 26 = .ok (.i2f, 1) := by decide +kernel
theorem dX11_prankShare_27 : decode cX11_prankShare 27 = .ok (.fdiv, 1) := by decide +kernel
theorem dX11_prankShare_28 : decode cX11_prankShare 28 = .ok (.freturn, 1) := by decide +kernel
theorem k_X11_prankShare : cardV yX11_prankShare (Cond.code yX11_prankShare cX11_prankShare 1 (some .float)) 0 := ⟨⟨qi_X11_prankShare, qv_X11_prankShare⟩, qc_X11_prankShare, qn_X11, by decide +kernel, by decide +kernel, by decide +kernel⟩
set_option maxHeartbeats 4000000 in
set_option maxRecDepth 100000 in
theorem c_X11_prankShare (l : Launch) (hfl : l.stackTraces = false) (ak av : Nat → Nat) (aS : Nat) (D : va_G) (g : Nat → ClassId) (q_this q_town q_ahead q_kept q_past q_reason q_orders q_ways q_sheet q_town_houses q_town_halls q_town_posts q_town_blocks q_town_kinds : Nat) (f_isKept : Int32) (f_town_hour : Int32) (f_town_day : Int32) (f_town_prankHouse : Int32) (f_town_bells : Int32) (f_town_echoes : Int32) (f_town_bellPranks : Int32) (a_town_kinds : Nat → Int32) (o : Nat × UInt32) (h : F_X11_prankShare a_town_kinds = some o) : MX l yX11_prankShare (Cond.code yX11_prankShare cX11_prankShare 1 (some .float)) { frames := 8, cells := 1, slots := 6, locals := 130 } ak av aS D g [.ref q_this] [(q_this, .inr (11, [.ref q_town, .ref q_ahead, .ref q_kept, .int f_isKept, .ref q_past, .ref q_reason, .ref q_orders, .ref q_ways, .ref q_sheet])), (q_town, .inr (9, [.ref q_town_houses, .ref q_town_halls, .ref q_town_posts, .ref q_town_blocks, .ref q_town_kinds, .int f_town_hour, .int f_town_day, .int f_town_prankHouse, .int f_town_bells, .int f_town_echoes, .int f_town_bellPranks])), (q_town_kinds, .inl (g 0, 4, .inl a_town_kinds))] o.1 (some (.float o.2)) [(q_this, .inr (11, [.ref q_town, .ref q_ahead, .ref q_kept, .int f_isKept, .ref q_past, .ref q_reason, .ref q_orders, .ref q_ways, .ref q_sheet])), (q_town, .inr (9, [.ref q_town_houses, .ref q_town_halls, .ref q_town_posts, .ref q_town_blocks, .ref q_town_kinds, .int f_town_hour, .int f_town_day, .int f_town_prankHouse, .int f_town_bells, .int f_town_echoes, .int f_town_bellPranks])), (q_town_kinds, .inl (g 0, 4, .inl a_town_kinds))] 1 6 := by
  refine z_ex_start (by decide) (Nat.le_of_ble_eq_true rfl) ?_
  intro p e s m args below meth c Q A X hr hE hA hno hQ
  refine z_lv (lv' := [(0, .ref q_this)]) rfl ?_
  refine z_aload_n X 0 dX11_prankShare_0 rfl rfl ?_
  refine z_get (q0 := 0) (k := 0) (ci := 11) X IW_P iw_X11 rfl qf_X11_X11_town (by decide) dX11_prankShare_1 rfl rfl ?_
  obtain ⟨o1, e2, h⟩ := bnd_p h
  refine z_rdV (rest := []) (q0 := 1) (ci := 9) X IW_P k_X9_countRings (c_X9_countRings l D g q_town q_town_houses q_town_halls q_town_posts q_town_blocks q_town_kinds f_town_hour f_town_day f_town_prankHouse f_town_bells f_town_echoes f_town_bellPranks a_town_kinds o1 e2) ql_X11_X9_countRings dX11_prankShare_4 [1, 2] rfl rfl rfl rfl rfl rfl ⟨Nat.le_of_ble_eq_true rfl, Nat.le_of_ble_eq_true rfl, rfl, rfl, Nat.le_of_ble_eq_true rfl, Nat.le_of_ble_eq_true rfl⟩ (Nat.le_of_ble_eq_true rfl) ?_
  obtain ⟨o3, e4, h⟩ := bnd_p h
  refine z_exS (rest := []) (ws' := [(q_this, .inr (11, [.ref q_town, .ref q_ahead, .ref q_kept, .int f_isKept, .ref q_past, .ref q_reason, .ref q_orders, .ref q_ways, .ref q_sheet])), (q_town, .inr (9, [.ref q_town_houses, .ref q_town_halls, .ref q_town_posts, .ref q_town_blocks, .ref q_town_kinds, .int f_town_hour, .int f_town_day, .int f_town_prankHouse, .int f_town_bells, .int f_town_echoes, .int f_town_bellPranks])), (q_town_kinds, .inl (g 0, 4, .inl a_town_kinds))]) X hE hA k_X11_demandDivisor (c_X11_demandDivisor l hfl ak av aS D g o1 o3 e4) ql_X11_X11_demandDivisor dX11_prankShare_7 bkc_nil bk_nil rfl rfl ⟨Nat.le_of_ble_eq_true rfl, Nat.le_of_ble_eq_true rfl, rfl, rfl, Nat.le_of_ble_eq_true rfl, Nat.le_of_ble_eq_true rfl⟩ (Nat.le_of_ble_eq_true rfl) (fun x5 => ?_) (fun x5 => ?_)
  · have h := brn_t h x5
    refine z_aload_n X 0 dX11_prankShare_10 rfl rfl ?_
    refine z_get (q0 := 0) (k := 0) (ci := 11) X IW_P iw_X11 rfl qf_X11_X11_town (by decide) dX11_prankShare_11 rfl rfl ?_
    refine z_iconst X (3 : Int32) dX11_prankShare_14 (by decide) ?_
    obtain ⟨o6, e7, h⟩ := bnd_p h
    refine z_rdV (rest := []) (q0 := 1) (ci := 9) X IW_P k_X9_countKind (c_X9_countKind l D g q_town q_town_houses q_town_halls q_town_posts q_town_blocks q_town_kinds (3 : Int32) f_town_hour f_town_day f_town_prankHouse f_town_bells f_town_echoes f_town_bellPranks a_town_kinds o6 e7) ql_X11_X9_countKind dX11_prankShare_15 [1, 2] rfl rfl rfl rfl rfl rfl ⟨Nat.le_of_ble_eq_true rfl, Nat.le_of_ble_eq_true rfl, rfl, rfl, Nat.le_of_ble_eq_true rfl, Nat.le_of_ble_eq_true rfl⟩ (Nat.le_of_ble_eq_true rfl) ?_
    refine z_i2f X dX11_prankShare_18 ?_
    refine z_aload_n X 0 dX11_prankShare_19 rfl rfl ?_
    refine z_get (q0 := 0) (k := 0) (ci := 11) X IW_P iw_X11 rfl qf_X11_X11_town (by decide) dX11_prankShare_20 rfl rfl ?_
    obtain ⟨o8, e9, h⟩ := bnd_p h
    refine z_rdV (rest := [.float (FP.i2f o6)]) (q0 := 1) (ci := 9) X IW_P k_X9_countRings (c_X9_countRings l D g q_town q_town_houses q_town_halls q_town_posts q_town_blocks q_town_kinds f_town_hour f_town_day f_town_prankHouse f_town_bells f_town_echoes f_town_bellPranks a_town_kinds o8 e9) ql_X11_X9_countRings dX11_prankShare_23 [1, 2] rfl rfl rfl rfl rfl rfl ⟨Nat.le_of_ble_eq_true rfl, Nat.le_of_ble_eq_true rfl, rfl, rfl, Nat.le_of_ble_eq_true rfl, Nat.le_of_ble_eq_true rfl⟩ (Nat.le_of_ble_eq_true rfl) ?_
    refine z_i2f X dX11_prankShare_26 ?_
    obtain ⟨e10, h⟩ := grd_p h
    refine z_fdiv X e10 dX11_prankShare_27 ?_
    cases h
    exact z_fretX X hQ (Nat.le_of_ble_eq_true rfl) (Nat.le_of_ble_eq_true rfl) hr dX11_prankShare_28
  · have h := brn_f h x5
    cases h
    exact zt_out (lv := [(0, .ref q_this)]) X hno hQ x5 (Nat.le_of_ble_eq_true rfl) (Nat.le_of_ble_eq_true rfl)

def J_X11_undo_15 (a_past_pool : Nat → TVal) (t0 : Int32) (f_town_hour : Int32) (f_town_day : Int32) (f_town_prankHouse : Int32) (f_town_bells : Int32) (f_town_echoes : Int32) (f_town_bellPranks : Int32) (f_town_houses_size : Int32) (a_town_houses_cells : Nat → Int32) (a_town_houses_froms : Nat → Int32) (a_town_houses_tos : Nat → Int32) (a_town_houses_rings : Nat → Int32) (a_town_houses_pranks : Nat → Int32) (f_town_halls_size : Int32) (a_town_halls_rows : Nat → Int32) (a_town_halls_firsts : Nat → Int32) (a_town_halls_lasts : Nat → Int32) (f_town_posts_size : Int32) (a_town_posts_cells : Nat → Int32) (a_town_posts_tolds : Nat → Int32) (a_town_blocks : Nat → Int32) (a_town_kinds : Nat → Int32) (f_past_size : Int32) (f_past_next : Int32) : Option (Nat × Int32 × Int32 × Int32 × Int32 × Int32 × Int32 × Int32 × Int32 × (Nat → Int32) × (Nat → Int32) × (Nat → Int32) × (Nat → Int32) × (Nat → Int32) × Int32 × (Nat → Int32) × (Nat → Int32) × (Nat → Int32) × Int32 × (Nat → Int32) × (Nat → Int32) × (Nat → Int32) × (Nat → Int32) × Int32 × Int32) :=
  bnd (F_X11_demandReady t0) (fun o3 => brn (o3 = 0) (bnd (F_X4_pop a_past_pool f_past_size f_past_next f_town_hour f_town_day f_town_prankHouse f_town_bells f_town_echoes f_town_bellPranks f_town_houses_size a_town_houses_cells a_town_houses_froms a_town_houses_tos a_town_houses_rings a_town_houses_pranks f_town_halls_size a_town_halls_rows a_town_halls_firsts a_town_halls_lasts f_town_posts_size a_town_posts_cells a_town_posts_tolds a_town_blocks a_town_kinds) (fun o6 => bnd (F_X4_size o6.1) (fun o9 => some (0, o9, o6.2.2.1, o6.2.2.2.1, o6.2.2.2.2.1, o6.2.2.2.2.2.1, o6.2.2.2.2.2.2.1, o6.2.2.2.2.2.2.2.1, o6.2.2.2.2.2.2.2.2.1, o6.2.2.2.2.2.2.2.2.2.1, o6.2.2.2.2.2.2.2.2.2.2.1, o6.2.2.2.2.2.2.2.2.2.2.2.1, o6.2.2.2.2.2.2.2.2.2.2.2.2.1, o6.2.2.2.2.2.2.2.2.2.2.2.2.2.1, o6.2.2.2.2.2.2.2.2.2.2.2.2.2.2.1, o6.2.2.2.2.2.2.2.2.2.2.2.2.2.2.2.1, o6.2.2.2.2.2.2.2.2.2.2.2.2.2.2.2.2.1, o6.2.2.2.2.2.2.2.2.2.2.2.2.2.2.2.2.2.1, o6.2.2.2.2.2.2.2.2.2.2.2.2.2.2.2.2.2.2.1, o6.2.2.2.2.2.2.2.2.2.2.2.2.2.2.2.2.2.2.2.1, o6.2.2.2.2.2.2.2.2.2.2.2.2.2.2.2.2.2.2.2.2.1, o6.2.2.2.2.2.2.2.2.2.2.2.2.2.2.2.2.2.2.2.2.2.1, o6.2.2.2.2.2.2.2.2.2.2.2.2.2.2.2.2.2.2.2.2.2.2, o6.1, o6.2.1)))) (some (o3, (0 : Int32), f_town_hour, f_town_day, f_town_prankHouse, f_town_bells, f_town_echoes, f_town_bellPranks, f_town_houses_size, a_town_houses_cells, a_town_houses_froms, a_town_houses_tos, a_town_houses_rings, a_town_houses_pranks, f_town_halls_size, a_town_halls_rows, a_town_halls_firsts, a_town_halls_lasts, f_town_posts_size, a_town_posts_cells, a_town_posts_tolds, a_town_blocks, a_town_kinds, f_past_size, f_past_next)))

def F_X11_undo (a_past_pool : Nat → TVal) (f_town_hour : Int32) (f_town_day : Int32) (f_town_prankHouse : Int32) (f_town_bells : Int32) (f_town_echoes : Int32) (f_town_bellPranks : Int32) (f_town_houses_size : Int32) (a_town_houses_cells : Nat → Int32) (a_town_houses_froms : Nat → Int32) (a_town_houses_tos : Nat → Int32) (a_town_houses_rings : Nat → Int32) (a_town_houses_pranks : Nat → Int32) (f_town_halls_size : Int32) (a_town_halls_rows : Nat → Int32) (a_town_halls_firsts : Nat → Int32) (a_town_halls_lasts : Nat → Int32) (f_town_posts_size : Int32) (a_town_posts_cells : Nat → Int32) (a_town_posts_tolds : Nat → Int32) (a_town_blocks : Nat → Int32) (a_town_kinds : Nat → Int32) (f_past_size : Int32) (f_past_next : Int32) : Option (Nat × Int32 × Int32 × Int32 × Int32 × Int32 × Int32 × Int32 × Int32 × (Nat → Int32) × (Nat → Int32) × (Nat → Int32) × (Nat → Int32) × (Nat → Int32) × Int32 × (Nat → Int32) × (Nat → Int32) × (Nat → Int32) × Int32 × (Nat → Int32) × (Nat → Int32) × (Nat → Int32) × (Nat → Int32) × Int32 × Int32) :=
  bnd (F_X4_size f_past_size) (fun o1 => brn (o1 ≤ 0) (J_X11_undo_15 a_past_pool (0 : Int32) f_town_hour f_town_day f_town_prankHouse f_town_bells f_town_echoes f_town_bellPranks f_town_houses_size a_town_houses_cells a_town_houses_froms a_town_houses_tos a_town_houses_rings a_town_houses_pranks f_town_halls_size a_town_halls_rows a_town_halls_firsts a_town_halls_lasts f_town_posts_size a_town_posts_cells a_town_posts_tolds a_town_blocks a_town_kinds f_past_size f_past_next) (J_X11_undo_15 a_past_pool (1 : Int32) f_town_hour f_town_day f_town_prankHouse f_town_bells f_town_echoes f_town_bellPranks f_town_houses_size a_town_houses_cells a_town_houses_froms a_town_houses_tos a_town_houses_rings a_town_houses_pranks f_town_halls_size a_town_halls_rows a_town_halls_firsts a_town_halls_lasts f_town_posts_size a_town_posts_cells a_town_posts_tolds a_town_blocks a_town_kinds f_past_size f_past_next))
theorem dX11_undo_0 : decode cX11_undo 0 = .ok (.aload_n 0, 1) := by decide +kernel
theorem dX11_undo_1 : decode cX11_undo 1 = .ok (.getfield 29, 3) := by decide +kernel
theorem dX11_undo_4 : decode cX11_undo 4 = .ok (.invokevirtual 330, 3) := by decide +kernel
theorem dX11_undo_7 : decode cX11_undo 7 = .ok (.ifCond .le 7, 3) := by decide +kernel
theorem dX11_undo_10 : decode cX11_undo 10 = .ok (.iconst 1, 1) := by decide +kernel
theorem dX11_undo_11 : decode cX11_undo 11 = .ok (.goto 4, 3) := by decide +kernel
theorem dX11_undo_14 : decode cX11_undo 14 = .ok (.iconst 0, 1) := by decide +kernel
theorem dX11_undo_15 : decode cX11_undo 15 = .ok (.invokestatic 285, 3) := by decide +kernel
theorem dX11_undo_18 : decode cX11_undo 18 = .ok (.aload_n 0, 1) := by decide +kernel
theorem dX11_undo_19 : decode cX11_undo 19 = .ok (.getfield 29, 3) := by decide +kernel
theorem dX11_undo_22 : decode cX11_undo 22 = .ok (.aload_n 0, 1) := by decide +kernel
theorem dX11_undo_23 : decode cX11_undo 23 = .ok (.getfield 10, 3) := by decide +kernel
theorem dX11_undo_26 : decode cX11_undo 26 = .ok (.invokevirtual 354, 3) := by decide +kernel
theorem dX11_undo_29 : decode cX11_undo 29 = .ok (.aload_n 0, 1) := by decide +kernel
theorem dX11_undo_30 : decode cX11_undo 30 = .ok (.getfield 29, 3) := by decide +kernel
theorem dX11_undo_33 : decode cX11_undo 33 = .ok (.invokevirtual 330, 3) := by decide +kernel
theorem dX11_undo_36 : decode cX11_undo 36 = .ok (.ireturn, 1) := by decide +kernel
theorem k_X11_undo : cardV yX11_undo (Cond.code yX11_undo cX11_undo 1 (some .int)) 0 := ⟨⟨qi_X11_undo, qv_X11_undo⟩, qc_X11_undo, qn_X11, by decide +kernel, by decide +kernel, by decide +kernel⟩
set_option maxHeartbeats 4000000 in
set_option maxRecDepth 100000 in
theorem c_X11_undo (l : Launch) (hfl : l.stackTraces = false) (ak av : Nat → Nat) (aS : Nat) (D : va_G) (g : Nat → ClassId) (ad : Nat → Nat → Nat) (q_this q_town q_ahead q_kept q_past q_reason q_orders q_ways q_sheet q_town_houses q_town_halls q_town_posts q_town_blocks q_town_kinds q_town_houses_cells q_town_houses_froms q_town_houses_tos q_town_houses_rings q_town_houses_pranks q_town_halls_rows q_town_halls_firsts q_town_halls_lasts q_town_posts_cells q_town_posts_tolds q_past_towns : Nat) (f_isKept : Int32) (f_town_hour : Int32) (f_town_day : Int32) (f_town_prankHouse : Int32) (f_town_bells : Int32) (f_town_echoes : Int32) (f_town_bellPranks : Int32) (f_town_houses_size : Int32) (a_town_houses_cells : Nat → Int32) (a_town_houses_froms : Nat → Int32) (a_town_houses_tos : Nat → Int32) (a_town_houses_rings : Nat → Int32) (a_town_houses_pranks : Nat → Int32) (f_town_halls_size : Int32) (a_town_halls_rows : Nat → Int32) (a_town_halls_firsts : Nat → Int32) (a_town_halls_lasts : Nat → Int32) (f_town_posts_size : Int32) (a_town_posts_cells : Nat → Int32) (a_town_posts_tolds : Nat → Int32) (a_town_blocks : Nat → Int32) (a_town_kinds : Nat → Int32) (f_past_size : Int32) (f_past_next : Int32) (a_past_pool : Nat → TVal) (o : Nat × Int32 × Int32 × Int32 × Int32 × Int32 × Int32 × Int32 × Int32 × (Nat → Int32) × (Nat → Int32) × (Nat → Int32) × (Nat → Int32) × (Nat → Int32) × Int32 × (Nat → Int32) × (Nat → Int32) × (Nat → Int32) × Int32 × (Nat → Int32) × (Nat → Int32) × (Nat → Int32) × (Nat → Int32) × Int32 × Int32) (h : F_X11_undo a_past_pool f_town_hour f_town_day f_town_prankHouse f_town_bells f_town_echoes f_town_bellPranks f_town_houses_size a_town_houses_cells a_town_houses_froms a_town_houses_tos a_town_houses_rings a_town_houses_pranks f_town_halls_size a_town_halls_rows a_town_halls_firsts a_town_halls_lasts f_town_posts_size a_town_posts_cells a_town_posts_tolds a_town_blocks a_town_kinds f_past_size f_past_next = some o) : MX l yX11_undo (Cond.code yX11_undo cX11_undo 1 (some .int)) { frames := 8, cells := 1, slots := 6, locals := 130 } ak av aS D g [.ref q_this] ([(q_this, .inr (11, [.ref q_town, .ref q_ahead, .ref q_kept, .int f_isKept, .ref q_past, .ref q_reason, .ref q_orders, .ref q_ways, .ref q_sheet])), (q_town, .inr (9, [.ref q_town_houses, .ref q_town_halls, .ref q_town_posts, .ref q_town_blocks, .ref q_town_kinds, .int f_town_hour, .int f_town_day, .int f_town_prankHouse, .int f_town_bells, .int f_town_echoes, .int f_town_bellPranks])), (q_town_houses, .inr (3, [.int f_town_houses_size, .ref q_town_houses_cells, .ref q_town_houses_froms, .ref q_town_houses_tos, .ref q_town_houses_rings, .ref q_town_houses_pranks])), (q_town_houses_cells, .inl (g 0, 10, .inl a_town_houses_cells)), (q_town_houses_froms, .inl (g 0, 10, .inl a_town_houses_froms)), (q_town_houses_tos, .inl (g 0, 10, .inl a_town_houses_tos)), (q_town_houses_rings, .inl (g 0, 10, .inl a_town_houses_rings)), (q_town_houses_pranks, .inl (g 0, 10, .inl a_town_houses_pranks)), (q_town_halls, .inr (2, [.int f_town_halls_size, .ref q_town_halls_rows, .ref q_town_halls_firsts, .ref q_town_halls_lasts])), (q_town_halls_rows, .inl (g 0, 4, .inl a_town_halls_rows)), (q_town_halls_firsts, .inl (g 0, 4, .inl a_town_halls_firsts)), (q_town_halls_lasts, .inl (g 0, 4, .inl a_town_halls_lasts)), (q_town_posts, .inr (6, [.int f_town_posts_size, .ref q_town_posts_cells, .ref q_town_posts_tolds])), (q_town_posts_cells, .inl (g 0, 4, .inl a_town_posts_cells)), (q_town_posts_tolds, .inl (g 0, 4, .inl a_town_posts_tolds)), (q_town_blocks, .inl (g 0, 64, .inl a_town_blocks)), (q_town_kinds, .inl (g 0, 4, .inl a_town_kinds)), (q_past, .inr (5, [.ref q_past_towns, .int f_past_size, .int f_past_next])), (q_past_towns, .inl (g 4, 8, .inr (.inr (.inr (.inr (twA ad))))))] ++ poolW g ad a_past_pool) o.1 (some (.int o.2.1)) ([(q_this, .inr (11, [.ref q_town, .ref q_ahead, .ref q_kept, .int f_isKept, .ref q_past, .ref q_reason, .ref q_orders, .ref q_ways, .ref q_sheet])), (q_town, .inr (9, [.ref q_town_houses, .ref q_town_halls, .ref q_town_posts, .ref q_town_blocks, .ref q_town_kinds, .int o.2.2.1, .int o.2.2.2.1, .int o.2.2.2.2.1, .int o.2.2.2.2.2.1, .int o.2.2.2.2.2.2.1, .int o.2.2.2.2.2.2.2.1])), (q_town_houses, .inr (3, [.int o.2.2.2.2.2.2.2.2.1, .ref q_town_houses_cells, .ref q_town_houses_froms, .ref q_town_houses_tos, .ref q_town_houses_rings, .ref q_town_houses_pranks])), (q_town_houses_cells, .inl (g 0, 10, .inl o.2.2.2.2.2.2.2.2.2.1)), (q_town_houses_froms, .inl (g 0, 10, .inl o.2.2.2.2.2.2.2.2.2.2.1)), (q_town_houses_tos, .inl (g 0, 10, .inl o.2.2.2.2.2.2.2.2.2.2.2.1)), (q_town_houses_rings, .inl (g 0, 10, .inl o.2.2.2.2.2.2.2.2.2.2.2.2.1)), (q_town_houses_pranks, .inl (g 0, 10, .inl o.2.2.2.2.2.2.2.2.2.2.2.2.2.1)), (q_town_halls, .inr (2, [.int o.2.2.2.2.2.2.2.2.2.2.2.2.2.2.1, .ref q_town_halls_rows, .ref q_town_halls_firsts, .ref q_town_halls_lasts])), (q_town_halls_rows, .inl (g 0, 4, .inl o.2.2.2.2.2.2.2.2.2.2.2.2.2.2.2.1)), (q_town_halls_firsts, .inl (g 0, 4, .inl o.2.2.2.2.2.2.2.2.2.2.2.2.2.2.2.2.1)), (q_town_halls_lasts, .inl (g 0, 4, .inl o.2.2.2.2.2.2.2.2.2.2.2.2.2.2.2.2.2.1)), (q_town_posts, .inr (6, [.int o.2.2.2.2.2.2.2.2.2.2.2.2.2.2.2.2.2.2.1, .ref q_town_posts_cells, .ref q_town_posts_tolds])), (q_town_posts_cells, .inl (g 0, 4, .inl o.2.2.2.2.2.2.2.2.2.2.2.2.2.2.2.2.2.2.2.1)), (q_town_posts_tolds, .inl (g 0, 4, .inl o.2.2.2.2.2.2.2.2.2.2.2.2.2.2.2.2.2.2.2.2.1)), (q_town_blocks, .inl (g 0, 64, .inl o.2.2.2.2.2.2.2.2.2.2.2.2.2.2.2.2.2.2.2.2.2.1)), (q_town_kinds, .inl (g 0, 4, .inl o.2.2.2.2.2.2.2.2.2.2.2.2.2.2.2.2.2.2.2.2.2.2.1)), (q_past, .inr (5, [.ref q_past_towns, .int o.2.2.2.2.2.2.2.2.2.2.2.2.2.2.2.2.2.2.2.2.2.2.2.1, .int o.2.2.2.2.2.2.2.2.2.2.2.2.2.2.2.2.2.2.2.2.2.2.2.2])), (q_past_towns, .inl (g 4, 8, .inr (.inr (.inr (.inr (twA ad))))))] ++ poolW g ad a_past_pool) 1 6 := by
  refine z_ex_start (by decide) (Nat.le_of_ble_eq_true rfl) ?_
  intro p e s m args below meth c Q A X hr hE hA hno hQ
  refine z_lv (lv' := [(0, .ref q_this)]) rfl ?_
  have H15 : ∀ (t0 : Int32) (f_town_hour : Int32) (f_town_day : Int32) (f_town_prankHouse : Int32) (f_town_bells : Int32) (f_town_echoes : Int32) (f_town_bellPranks : Int32) (f_town_houses_size : Int32) (a_town_houses_cells : Nat → Int32) (a_town_houses_froms : Nat → Int32) (a_town_houses_tos : Nat → Int32) (a_town_houses_rings : Nat → Int32) (a_town_houses_pranks : Nat → Int32) (f_town_halls_size : Int32) (a_town_halls_rows : Nat → Int32) (a_town_halls_firsts : Nat → Int32) (a_town_halls_lasts : Nat → Int32) (f_town_posts_size : Int32) (a_town_posts_cells : Nat → Int32) (a_town_posts_tolds : Nat → Int32) (a_town_blocks : Nat → Int32) (a_town_kinds : Nat → Int32) (f_past_size : Int32) (f_past_next : Int32), J_X11_undo_15 a_past_pool t0 f_town_hour f_town_day f_town_prankHouse f_town_bells f_town_echoes f_town_bellPranks f_town_houses_size a_town_houses_cells a_town_houses_froms a_town_houses_tos a_town_houses_rings a_town_houses_pranks f_town_halls_size a_town_halls_rows a_town_halls_firsts a_town_halls_lasts f_town_posts_size a_town_posts_cells a_town_posts_tolds a_town_blocks a_town_kinds f_past_size f_past_next = some o → Z p l e { frames := 8, cells := 1, slots := 6, locals := 130 } s m args below meth c Q 1 0 0 (IW D A s ([(q_this, .inr (11, [.ref q_town, .ref q_ahead, .ref q_kept, .int f_isKept, .ref q_past, .ref q_reason, .ref q_orders, .ref q_ways, .ref q_sheet])), (q_town, .inr (9, [.ref q_town_houses, .ref q_town_halls, .ref q_town_posts, .ref q_town_blocks, .ref q_town_kinds, .int f_town_hour, .int f_town_day, .int f_town_prankHouse, .int f_town_bells, .int f_town_echoes, .int f_town_bellPranks])), (q_town_houses, .inr (3, [.int f_town_houses_size, .ref q_town_houses_cells, .ref q_town_houses_froms, .ref q_town_houses_tos, .ref q_town_houses_rings, .ref q_town_houses_pranks])), (q_town_houses_cells, .inl (g 0, 10, .inl a_town_houses_cells)), (q_town_houses_froms, .inl (g 0, 10, .inl a_town_houses_froms)), (q_town_houses_tos, .inl (g 0, 10, .inl a_town_houses_tos)), (q_town_houses_rings, .inl (g 0, 10, .inl a_town_houses_rings)), (q_town_houses_pranks, .inl (g 0, 10, .inl a_town_houses_pranks)), (q_town_halls, .inr (2, [.int f_town_halls_size, .ref q_town_halls_rows, .ref q_town_halls_firsts, .ref q_town_halls_lasts])), (q_town_halls_rows, .inl (g 0, 4, .inl a_town_halls_rows)), (q_town_halls_firsts, .inl (g 0, 4, .inl a_town_halls_firsts)), (q_town_halls_lasts, .inl (g 0, 4, .inl a_town_halls_lasts)), (q_town_posts, .inr (6, [.int f_town_posts_size, .ref q_town_posts_cells, .ref q_town_posts_tolds])), (q_town_posts_cells, .inl (g 0, 4, .inl a_town_posts_cells)), (q_town_posts_tolds, .inl (g 0, 4, .inl a_town_posts_tolds)), (q_town_blocks, .inl (g 0, 64, .inl a_town_blocks)), (q_town_kinds, .inl (g 0, 4, .inl a_town_kinds)), (q_past, .inr (5, [.ref q_past_towns, .int f_past_size, .int f_past_next])), (q_past_towns, .inl (g 4, 8, .inr (.inr (.inr (.inr (twA ad))))))] ++ poolW g ad a_past_pool)) 15 [(0, .ref q_this)] [.int t0] := by
    intro t0 f_town_hour f_town_day f_town_prankHouse f_town_bells f_town_echoes f_town_bellPranks f_town_houses_size a_town_houses_cells a_town_houses_froms a_town_houses_tos a_town_houses_rings a_town_houses_pranks f_town_halls_size a_town_halls_rows a_town_halls_firsts a_town_halls_lasts f_town_posts_size a_town_posts_cells a_town_posts_tolds a_town_blocks a_town_kinds f_past_size f_past_next h
    obtain ⟨o3, e4, h⟩ := bnd_p h
    refine z_exS (rest := []) (ws' := ([(q_this, .inr (11, [.ref q_town, .ref q_ahead, .ref q_kept, .int f_isKept, .ref q_past, .ref q_reason, .ref q_orders, .ref q_ways, .ref q_sheet])), (q_town, .inr (9, [.ref q_town_houses, .ref q_town_halls, .ref q_town_posts, .ref q_town_blocks, .ref q_town_kinds, .int f_town_hour, .int f_town_day, .int f_town_prankHouse, .int f_town_bells, .int f_town_echoes, .int f_town_bellPranks])), (q_town_houses, .inr (3, [.int f_town_houses_size, .ref q_town_houses_cells, .ref q_town_houses_froms, .ref q_town_houses_tos, .ref q_town_houses_rings, .ref q_town_houses_pranks])), (q_town_houses_cells, .inl (g 0, 10, .inl a_town_houses_cells)), (q_town_houses_froms, .inl (g 0, 10, .inl a_town_houses_froms)), (q_town_houses_tos, .inl (g 0, 10, .inl a_town_houses_tos)), (q_town_houses_rings, .inl (g 0, 10, .inl a_town_houses_rings)), (q_town_houses_pranks, .inl (g 0, 10, .inl a_town_houses_pranks)), (q_town_halls, .inr (2, [.int f_town_halls_size, .ref q_town_halls_rows, .ref q_town_halls_firsts, .ref q_town_halls_lasts])), (q_town_halls_rows, .inl (g 0, 4, .inl a_town_halls_rows)), (q_town_halls_firsts, .inl (g 0, 4, .inl a_town_halls_firsts)), (q_town_halls_lasts, .inl (g 0, 4, .inl a_town_halls_lasts)), (q_town_posts, .inr (6, [.int f_town_posts_size, .ref q_town_posts_cells, .ref q_town_posts_tolds])), (q_town_posts_cells, .inl (g 0, 4, .inl a_town_posts_cells)), (q_town_posts_tolds, .inl (g 0, 4, .inl a_town_posts_tolds)), (q_town_blocks, .inl (g 0, 64, .inl a_town_blocks)), (q_town_kinds, .inl (g 0, 4, .inl a_town_kinds)), (q_past, .inr (5, [.ref q_past_towns, .int f_past_size, .int f_past_next])), (q_past_towns, .inl (g 4, 8, .inr (.inr (.inr (.inr (twA ad))))))] ++ poolW g ad a_past_pool)) X hE hA k_X11_demandReady (c_X11_demandReady l hfl ak av aS D g t0 o3 e4) ql_X11_X11_demandReady dX11_undo_15 bkc_nil bk_nil rfl rfl ⟨Nat.le_of_ble_eq_true rfl, Nat.le_of_ble_eq_true rfl, rfl, rfl, Nat.le_of_ble_eq_true rfl, Nat.le_of_ble_eq_true rfl⟩ (Nat.le_of_ble_eq_true rfl) (fun x5 => ?_) (fun x5 => ?_)
    · have h := brn_t h x5
      refine z_aload_n X 0 dX11_undo_18 rfl rfl ?_
      refine z_get (q0 := 0) (k := 4) (ci := 11) X IW_P iw_X11 rfl qf_X11_X11_past (by decide) dX11_undo_19 rfl rfl ?_
      refine z_aload_n X 0 dX11_undo_22 rfl rfl ?_
      refine z_get (q0 := 0) (k := 0) (ci := 11) X IW_P iw_X11 rfl qf_X11_X11_town (by decide) dX11_undo_23 rfl rfl ?_
      obtain ⟨o6, e7, h⟩ := bnd_p h
      have f8 := bk_appP (E := [(q_this, .inr (11, [.ref q_town, .ref q_ahead, .ref q_kept, .int f_isKept, .ref q_past, .ref q_reason, .ref q_orders, .ref q_ways, .ref q_sheet])), (q_town, .inr (9, [.ref q_town_houses, .ref q_town_halls, .ref q_town_posts, .ref q_town_blocks, .ref q_town_kinds, .int f_town_hour, .int f_town_day, .int f_town_prankHouse, .int f_town_bells, .int f_town_echoes, .int f_town_bellPranks])), (q_town_houses, .inr (3, [.int f_town_houses_size, .ref q_town_houses_cells, .ref q_town_houses_froms, .ref q_town_houses_tos, .ref q_town_houses_rings, .ref q_town_houses_pranks])), (q_town_houses_cells, .inl (g 0, 10, .inl a_town_houses_cells)), (q_town_houses_froms, .inl (g 0, 10, .inl a_town_houses_froms)), (q_town_houses_tos, .inl (g 0, 10, .inl a_town_houses_tos)), (q_town_houses_rings, .inl (g 0, 10, .inl a_town_houses_rings)), (q_town_houses_pranks, .inl (g 0, 10, .inl a_town_houses_pranks)), (q_town_halls, .inr (2, [.int f_town_halls_size, .ref q_town_halls_rows, .ref q_town_halls_firsts, .ref q_town_halls_lasts])), (q_town_halls_rows, .inl (g 0, 4, .inl a_town_halls_rows)), (q_town_halls_firsts, .inl (g 0, 4, .inl a_town_halls_firsts)), (q_town_halls_lasts, .inl (g 0, 4, .inl a_town_halls_lasts)), (q_town_posts, .inr (6, [.int f_town_posts_size, .ref q_town_posts_cells, .ref q_town_posts_tolds])), (q_town_posts_cells, .inl (g 0, 4, .inl a_town_posts_cells)), (q_town_posts_tolds, .inl (g 0, 4, .inl a_town_posts_tolds)), (q_town_blocks, .inl (g 0, 64, .inl a_town_blocks)), (q_town_kinds, .inl (g 0, 4, .inl a_town_kinds)), (q_past, .inr (5, [.ref q_past_towns, .int f_past_size, .int f_past_next])), (q_past_towns, .inl (g 4, 8, .inr (.inr (.inr (.inr (twA ad))))))]) (E' := [(q_this, .inr (11, [.ref q_town, .ref q_ahead, .ref q_kept, .int f_isKept, .ref q_past, .ref q_reason, .ref q_orders, .ref q_ways, .ref q_sheet])), (q_town, .inr (9, [.ref q_town_houses, .ref q_town_halls, .ref q_town_posts, .ref q_town_blocks, .ref q_town_kinds, .int o6.2.2.1, .int o6.2.2.2.1, .int o6.2.2.2.2.1, .int o6.2.2.2.2.2.1, .int o6.2.2.2.2.2.2.1, .int o6.2.2.2.2.2.2.2.1])), (q_town_houses, .inr (3, [.int o6.2.2.2.2.2.2.2.2.1, .ref q_town_houses_cells, .ref q_town_houses_froms, .ref q_town_houses_tos, .ref q_town_houses_rings, .ref q_town_houses_pranks])), (q_town_houses_cells, .inl (g 0, 10, .inl o6.2.2.2.2.2.2.2.2.2.1)), (q_town_houses_froms, .inl (g 0, 10, .inl o6.2.2.2.2.2.2.2.2.2.2.1)), (q_town_houses_tos, .inl (g 0, 10, .inl o6.2.2.2.2.2.2.2.2.2.2.2.1)), (q_town_houses_rings, .inl (g 0, 10, .inl o6.2.2.2.2.2.2.2.2.2.2.2.2.1)), (q_town_houses_pranks, .inl (g 0, 10, .inl o6.2.2.2.2.2.2.2.2.2.2.2.2.2.1)), (q_town_halls, .inr (2, [.int o6.2.2.2.2.2.2.2.2.2.2.2.2.2.2.1, .ref q_town_halls_rows, .ref q_town_halls_firsts, .ref q_town_halls_lasts])), (q_town_halls_rows, .inl (g 0, 4, .inl o6.2.2.2.2.2.2.2.2.2.2.2.2.2.2.2.1)), (q_town_halls_firsts, .inl (g 0, 4, .inl o6.2.2.2.2.2.2.2.2.2.2.2.2.2.2.2.2.1)), (q_town_halls_lasts, .inl (g 0, 4, .inl o6.2.2.2.2.2.2.2.2.2.2.2.2.2.2.2.2.2.1)), (q_town_posts, .inr (6, [.int o6.2.2.2.2.2.2.2.2.2.2.2.2.2.2.2.2.2.2.1, .ref q_town_posts_cells, .ref q_town_posts_tolds])), (q_town_posts_cells, .inl (g 0, 4, .inl o6.2.2.2.2.2.2.2.2.2.2.2.2.2.2.2.2.2.2.2.1)), (q_town_posts_tolds, .inl (g 0, 4, .inl o6.2.2.2.2.2.2.2.2.2.2.2.2.2.2.2.2.2.2.2.2.1)), (q_town_blocks, .inl (g 0, 64, .inl o6.2.2.2.2.2.2.2.2.2.2.2.2.2.2.2.2.2.2.2.2.2.1)), (q_town_kinds, .inl (g 0, 4, .inl o6.2.2.2.2.2.2.2.2.2.2.2.2.2.2.2.2.2.2.2.2.2.2)), (q_past, .inr (5, [.ref q_past_towns, .int o6.1, .int o6.2.1])), (q_past_towns, .inl (g 4, 8, .inr (.inr (.inr (.inr (twA ad))))))]) (wc := [(q_past, .inr (5, [.ref q_past_towns, .int f_past_size, .int f_past_next])), (q_past_towns, .inl (g 4, 8, .inr (.inr (.inr (.inr (twA ad)))))), (q_town, .inr (9, [.ref q_town_houses, .ref q_town_halls, .ref q_town_posts, .ref q_town_blocks, .ref q_town_kinds, .int f_town_hour, .int f_town_day, .int f_town_prankHouse, .int f_town_bells, .int f_town_echoes, .int f_town_bellPranks])), (q_town_houses, .inr (3, [.int f_town_houses_size, .ref q_town_houses_cells, .ref q_town_houses_froms, .ref q_town_houses_tos, .ref q_town_houses_rings, .ref q_town_houses_pranks])), (q_town_houses_cells, .inl (g 0, 10, .inl a_town_houses_cells)), (q_town_houses_froms, .inl (g 0, 10, .inl a_town_houses_froms)), (q_town_houses_tos, .inl (g 0, 10, .inl a_town_houses_tos)), (q_town_houses_rings, .inl (g 0, 10, .inl a_town_houses_rings)), (q_town_houses_pranks, .inl (g 0, 10, .inl a_town_houses_pranks)), (q_town_halls, .inr (2, [.int f_town_halls_size, .ref q_town_halls_rows, .ref q_town_halls_firsts, .ref q_town_halls_lasts])), (q_town_halls_rows, .inl (g 0, 4, .inl a_town_halls_rows)), (q_town_halls_firsts, .inl (g 0, 4, .inl a_town_halls_firsts)), (q_town_halls_lasts, .inl (g 0, 4, .inl a_town_halls_lasts)), (q_town_posts, .inr (6, [.int f_town_posts_size, .ref q_town_posts_cells, .ref q_town_posts_tolds])), (q_town_posts_cells, .inl (g 0, 4, .inl a_town_posts_cells)), (q_town_posts_tolds, .inl (g 0, 4, .inl a_town_posts_tolds)), (q_town_blocks, .inl (g 0, 64, .inl a_town_blocks)), (q_town_kinds, .inl (g 0, 4, .inl a_town_kinds))]) (wc' := [(q_past, .inr (5, [.ref q_past_towns, .int o6.1, .int o6.2.1])), (q_past_towns, .inl (g 4, 8, .inr (.inr (.inr (.inr (twA ad)))))), (q_town, .inr (9, [.ref q_town_houses, .ref q_town_halls, .ref q_town_posts, .ref q_town_blocks, .ref q_town_kinds, .int o6.2.2.1, .int o6.2.2.2.1, .int o6.2.2.2.2.1, .int o6.2.2.2.2.2.1, .int o6.2.2.2.2.2.2.1, .int o6.2.2.2.2.2.2.2.1])), (q_town_houses, .inr (3, [.int o6.2.2.2.2.2.2.2.2.1, .ref q_town_houses_cells, .ref q_town_houses_froms, .ref q_town_houses_tos, .ref q_town_houses_rings, .ref q_town_houses_pranks])), (q_town_houses_cells, .inl (g 0, 10, .inl o6.2.2.2.2.2.2.2.2.2.1)), (q_town_houses_froms, .inl (g 0, 10, .inl o6.2.2.2.2.2.2.2.2.2.2.1)), (q_town_houses_tos, .inl (g 0, 10, .inl o6.2.2.2.2.2.2.2.2.2.2.2.1)), (q_town_houses_rings, .inl (g 0, 10, .inl o6.2.2.2.2.2.2.2.2.2.2.2.2.1)), (q_town_houses_pranks, .inl (g 0, 10, .inl o6.2.2.2.2.2.2.2.2.2.2.2.2.2.1)), (q_town_halls, .inr (2, [.int o6.2.2.2.2.2.2.2.2.2.2.2.2.2.2.1, .ref q_town_halls_rows, .ref q_town_halls_firsts, .ref q_town_halls_lasts])), (q_town_halls_rows, .inl (g 0, 4, .inl o6.2.2.2.2.2.2.2.2.2.2.2.2.2.2.2.1)), (q_town_halls_firsts, .inl (g 0, 4, .inl o6.2.2.2.2.2.2.2.2.2.2.2.2.2.2.2.2.1)), (q_town_halls_lasts, .inl (g 0, 4, .inl o6.2.2.2.2.2.2.2.2.2.2.2.2.2.2.2.2.2.1)), (q_town_posts, .inr (6, [.int o6.2.2.2.2.2.2.2.2.2.2.2.2.2.2.2.2.2.2.1, .ref q_town_posts_cells, .ref q_town_posts_tolds])), (q_town_posts_cells, .inl (g 0, 4, .inl o6.2.2.2.2.2.2.2.2.2.2.2.2.2.2.2.2.2.2.2.1)), (q_town_posts_tolds, .inl (g 0, 4, .inl o6.2.2.2.2.2.2.2.2.2.2.2.2.2.2.2.2.2.2.2.2.1)), (q_town_blocks, .inl (g 0, 64, .inl o6.2.2.2.2.2.2.2.2.2.2.2.2.2.2.2.2.2.2.2.2.2.1)), (q_town_kinds, .inl (g 0, 4, .inl o6.2.2.2.2.2.2.2.2.2.2.2.2.2.2.2.2.2.2.2.2.2.2))]) (wr := [(q_this, .inr (11, [.ref q_town, .ref q_ahead, .ref q_kept, .int f_isKept, .ref q_past, .ref q_reason, .ref q_orders, .ref q_ways, .ref q_sheet]))]) (X := poolW g ad a_past_pool) (X' := poolW g ad a_past_pool) (perm_of (n := 19) [17, 18, 1, 2, 3, 4, 5, 6, 7, 8, 9, 10, 11, 12, 13, 14, 15, 16] [0] rfl rfl rfl (by decide +kernel)) (perm_of (n := 19) [17, 18, 1, 2, 3, 4, 5, 6, 7, 8, 9, 10, 11, 12, 13, 14, 15, 16] [0] rfl rfl rfl (by decide +kernel)) ((rfl : ([(q_past, .inr (5, [.ref q_past_towns, .int f_past_size, .int f_past_next])), (q_past_towns, .inl (g 4, 8, .inr (.inr (.inr (.inr (twA ad)))))), (q_town, .inr (9, [.ref q_town_houses, .ref q_town_halls, .ref q_town_posts, .ref q_town_blocks, .ref q_town_kinds, .int f_town_hour, .int f_town_day, .int f_town_prankHouse, .int f_town_bells, .int f_town_echoes, .int f_town_bellPranks])), (q_town_houses, .inr (3, [.int f_town_houses_size, .ref q_town_houses_cells, .ref q_town_houses_froms, .ref q_town_houses_tos, .ref q_town_houses_rings, .ref q_town_houses_pranks])), (q_town_houses_cells, .inl (g 0, 10, .inl a_town_houses_cells)), (q_town_houses_froms, .inl (g 0, 10, .inl a_town_houses_froms)), (q_town_houses_tos, .inl (g 0, 10, .inl a_town_houses_tos)), (q_town_houses_rings, .inl (g 0, 10, .inl a_town_houses_rings)), (q_town_houses_pranks, .inl (g 0, 10, .inl a_town_houses_pranks)), (q_town_halls, .inr (2, [.int f_town_halls_size, .ref q_town_halls_rows, .ref q_town_halls_firsts, .ref q_town_halls_lasts])), (q_town_halls_rows, .inl (g 0, 4, .inl a_town_halls_rows)), (q_town_halls_firsts, .inl (g 0, 4, .inl a_town_halls_firsts)), (q_town_halls_lasts, .inl (g 0, 4, .inl a_town_halls_lasts)), (q_town_posts, .inr (6, [.int f_town_posts_size, .ref q_town_posts_cells, .ref q_town_posts_tolds])), (q_town_posts_cells, .inl (g 0, 4, .inl a_town_posts_cells)), (q_town_posts_tolds, .inl (g 0, 4, .inl a_town_posts_tolds)), (q_town_blocks, .inl (g 0, 64, .inl a_town_blocks)), (q_town_kinds, .inl (g 0, 4, .inl a_town_kinds))] : va_W).map Prod.fst = [q_past, q_past_towns, q_town, q_town_houses, q_town_houses_cells, q_town_houses_froms, q_town_houses_tos, q_town_houses_rings, q_town_houses_pranks, q_town_halls, q_town_halls_rows, q_town_halls_firsts, q_town_halls_lasts, q_town_posts, q_town_posts_cells, q_town_posts_tolds, q_town_blocks, q_town_kinds]).trans (rfl : ([(q_past, .inr (5, [.ref q_past_towns, .int o6.1, .int o6.2.1])), (q_past_towns, .inl (g 4, 8, .inr (.inr (.inr (.inr (twA ad)))))), (q_town, .inr (9, [.ref q_town_houses, .ref q_town_halls, .ref q_town_posts, .ref q_town_blocks, .ref q_town_kinds, .int o6.2.2.1, .int o6.2.2.2.1, .int o6.2.2.2.2.1, .int o6.2.2.2.2.2.1, .int o6.2.2.2.2.2.2.1, .int o6.2.2.2.2.2.2.2.1])), (q_town_houses, .inr (3, [.int o6.2.2.2.2.2.2.2.2.1, .ref q_town_houses_cells, .ref q_town_houses_froms, .ref q_town_houses_tos, .ref q_town_houses_rings, .ref q_town_houses_pranks])), (q_town_houses_cells, .inl (g 0, 10, .inl o6.2.2.2.2.2.2.2.2.2.1)), (q_town_houses_froms, .inl (g 0, 10, .inl o6.2.2.2.2.2.2.2.2.2.2.1)), (q_town_houses_tos, .inl (g 0, 10, .inl o6.2.2.2.2.2.2.2.2.2.2.2.1)), (q_town_houses_rings, .inl (g 0, 10, .inl o6.2.2.2.2.2.2.2.2.2.2.2.2.1)), (q_town_houses_pranks, .inl (g 0, 10, .inl o6.2.2.2.2.2.2.2.2.2.2.2.2.2.1)), (q_town_halls, .inr (2, [.int o6.2.2.2.2.2.2.2.2.2.2.2.2.2.2.1, .ref q_town_halls_rows, .ref q_town_halls_firsts, .ref q_town_halls_lasts])), (q_town_halls_rows, .inl (g 0, 4, .inl o6.2.2.2.2.2.2.2.2.2.2.2.2.2.2.2.1)), (q_town_halls_firsts, .inl (g 0, 4, .inl o6.2.2.2.2.2.2.2.2.2.2.2.2.2.2.2.2.1)), (q_town_halls_lasts, .inl (g 0, 4, .inl o6.2.2.2.2.2.2.2.2.2.2.2.2.2.2.2.2.2.1)), (q_town_posts, .inr (6, [.int o6.2.2.2.2.2.2.2.2.2.2.2.2.2.2.2.2.2.2.1, .ref q_town_posts_cells, .ref q_town_posts_tolds])), (q_town_posts_cells, .inl (g 0, 4, .inl o6.2.2.2.2.2.2.2.2.2.2.2.2.2.2.2.2.2.2.2.1)), (q_town_posts_tolds, .inl (g 0, 4, .inl o6.2.2.2.2.2.2.2.2.2.2.2.2.2.2.2.2.2.2.2.2.1)), (q_town_blocks, .inl (g 0, 64, .inl o6.2.2.2.2.2.2.2.2.2.2.2.2.2.2.2.2.2.2.2.2.2.1)), (q_town_kinds, .inl (g 0, 4, .inl o6.2.2.2.2.2.2.2.2.2.2.2.2.2.2.2.2.2.2.2.2.2.2))] : va_W).map Prod.fst = [q_past, q_past_towns, q_town, q_town_houses, q_town_houses_cells, q_town_houses_froms, q_town_houses_tos, q_town_houses_rings, q_town_houses_pranks, q_town_halls, q_town_halls_rows, q_town_halls_firsts, q_town_halls_lasts, q_town_posts, q_town_posts_cells, q_town_posts_tolds, q_town_blocks, q_town_kinds]).symm) poolW_fst
      refine z_wgV (rest := []) (q0 := 17) (ci := 5) (ws' := ([(q_this, .inr (11, [.ref q_town, .ref q_ahead, .ref q_kept, .int f_isKept, .ref q_past, .ref q_reason, .ref q_orders, .ref q_ways, .ref q_sheet])), (q_town, .inr (9, [.ref q_town_houses, .ref q_town_halls, .ref q_town_posts, .ref q_town_blocks, .ref q_town_kinds, .int o6.2.2.1, .int o6.2.2.2.1, .int o6.2.2.2.2.1, .int o6.2.2.2.2.2.1, .int o6.2.2.2.2.2.2.1, .int o6.2.2.2.2.2.2.2.1])), (q_town_houses, .inr (3, [.int o6.2.2.2.2.2.2.2.2.1, .ref q_town_houses_cells, .ref q_town_houses_froms, .ref q_town_houses_tos, .ref q_town_houses_rings, .ref q_town_houses_pranks])), (q_town_houses_cells, .inl (g 0, 10, .inl o6.2.2.2.2.2.2.2.2.2.1)), (q_town_houses_froms, .inl (g 0, 10, .inl o6.2.2.2.2.2.2.2.2.2.2.1)), (q_town_houses_tos, .inl (g 0, 10, .inl o6.2.2.2.2.2.2.2.2.2.2.2.1)), (q_town_houses_rings, .inl (g 0, 10, .inl o6.2.2.2.2.2.2.2.2.2.2.2.2.1)), (q_town_houses_pranks, .inl (g 0, 10, .inl o6.2.2.2.2.2.2.2.2.2.2.2.2.2.1)), (q_town_halls, .inr (2, [.int o6.2.2.2.2.2.2.2.2.2.2.2.2.2.2.1, .ref q_town_halls_rows, .ref q_town_halls_firsts, .ref q_town_halls_lasts])), (q_town_halls_rows, .inl (g 0, 4, .inl o6.2.2.2.2.2.2.2.2.2.2.2.2.2.2.2.1)), (q_town_halls_firsts, .inl (g 0, 4, .inl o6.2.2.2.2.2.2.2.2.2.2.2.2.2.2.2.2.1)), (q_town_halls_lasts, .inl (g 0, 4, .inl o6.2.2.2.2.2.2.2.2.2.2.2.2.2.2.2.2.2.1)), (q_town_posts, .inr (6, [.int o6.2.2.2.2.2.2.2.2.2.2.2.2.2.2.2.2.2.2.1, .ref q_town_posts_cells, .ref q_town_posts_tolds])), (q_town_posts_cells, .inl (g 0, 4, .inl o6.2.2.2.2.2.2.2.2.2.2.2.2.2.2.2.2.2.2.2.1)), (q_town_posts_tolds, .inl (g 0, 4, .inl o6.2.2.2.2.2.2.2.2.2.2.2.2.2.2.2.2.2.2.2.2.1)), (q_town_blocks, .inl (g 0, 64, .inl o6.2.2.2.2.2.2.2.2.2.2.2.2.2.2.2.2.2.2.2.2.2.1)), (q_town_kinds, .inl (g 0, 4, .inl o6.2.2.2.2.2.2.2.2.2.2.2.2.2.2.2.2.2.2.2.2.2.2)), (q_past, .inr (5, [.ref q_past_towns, .int o6.1, .int o6.2.1])), (q_past_towns, .inl (g 4, 8, .inr (.inr (.inr (.inr (twA ad))))))] ++ poolW g ad a_past_pool)) X k_X4_pop (c_X4_pop l D g ad q_past q_past_towns q_town q_town_houses q_town_halls q_town_posts q_town_blocks q_town_kinds q_town_houses_cells q_town_houses_froms q_town_houses_tos q_town_houses_rings q_town_houses_pranks q_town_halls_rows q_town_halls_firsts q_town_halls_lasts q_town_posts_cells q_town_posts_tolds f_past_size f_past_next a_past_pool f_town_hour f_town_day f_town_prankHouse f_town_bells f_town_echoes f_town_bellPranks f_town_houses_size a_town_houses_cells a_town_houses_froms a_town_houses_tos a_town_houses_rings a_town_houses_pranks f_town_halls_size a_town_halls_rows a_town_halls_firsts a_town_halls_lasts f_town_posts_size a_town_posts_cells a_town_posts_tolds a_town_blocks a_town_kinds o6 e7) ql_X11_X4_pop dX11_undo_26 f8.1 f8.2 rfl rfl rfl rfl rfl ⟨Nat.le_of_ble_eq_true rfl, Nat.le_of_ble_eq_true rfl, rfl, rfl, Nat.le_of_ble_eq_true rfl, Nat.le_of_ble_eq_true rfl⟩ (Nat.le_of_ble_eq_true rfl) ?_
      refine z_aload_n X 0 dX11_undo_29 rfl rfl ?_
      refine z_get (q0 := 0) (k := 4) (ci := 11) X IW_P iw_X11 rfl qf_X11_X11_past (by decide) dX11_undo_30 rfl rfl ?_
      obtain ⟨o9, e10, h⟩ := bnd_p h
      refine z_rdV (rest := []) (q0 := 17) (ci := 5) X IW_P k_X4_size (c_X4_size l D g q_past q_past_towns o6.1 o6.2.1 o9 e10) ql_X11_X4_size dX11_undo_33 [17] rfl rfl rfl rfl rfl rfl ⟨Nat.le_of_ble_eq_true rfl, Nat.le_of_ble_eq_true rfl, rfl, rfl, Nat.le_of_ble_eq_true rfl, Nat.le_of_ble_eq_true rfl⟩ (Nat.le_of_ble_eq_true rfl) ?_
      cases h
      exact z_iretX X hQ (Nat.le_of_ble_eq_true rfl) (Nat.le_of_ble_eq_true rfl) hr dX11_undo_36
    · have h := brn_f h x5
      cases h
      exact zt_out (lv := [(0, .ref q_this)]) X hno hQ x5 (Nat.le_of_ble_eq_true rfl) (Nat.le_of_ble_eq_true rfl)
  refine z_aload_n X 0 dX11_undo_0 rfl rfl ?_
  refine z_get (q0 := 0) (k := 4) (ci := 11) X IW_P iw_X11 rfl qf_X11_X11_past (by decide) dX11_undo_1 rfl rfl ?_
  obtain ⟨o1, e2, h⟩ := bnd_p h
  refine z_rdV (rest := []) (q0 := 17) (ci := 5) X IW_P k_X4_size (c_X4_size l D g q_past q_past_towns f_past_size f_past_next o1 e2) ql_X11_X4_size dX11_undo_4 [17] rfl rfl rfl rfl rfl rfl ⟨Nat.le_of_ble_eq_true rfl, Nat.le_of_ble_eq_true rfl, rfl, rfl, Nat.le_of_ble_eq_true rfl, Nat.le_of_ble_eq_true rfl⟩ (Nat.le_of_ble_eq_true rfl) ?_
  refine z_if_le X 14 dX11_undo_7 (by decide) h (fun _ h => ?_) (fun _ h => ?_)
  · refine z_iconst X (0 : Int32) dX11_undo_14 (by decide) ?_
    refine z_widen (k := 0) (n := 0) (Nat.le_of_ble_eq_true rfl) (Nat.le_of_ble_eq_true rfl) ?_
    exact H15 (0 : Int32) f_town_hour f_town_day f_town_prankHouse f_town_bells f_town_echoes f_town_bellPranks f_town_houses_size a_town_houses_cells a_town_houses_froms a_town_houses_tos a_town_houses_rings a_town_houses_pranks f_town_halls_size a_town_halls_rows a_town_halls_firsts a_town_halls_lasts f_town_posts_size a_town_posts_cells a_town_posts_tolds a_town_blocks a_town_kinds f_past_size f_past_next h
  · refine z_iconst X (1 : Int32) dX11_undo_10 (by decide) ?_
    refine z_goto X 15 dX11_undo_11 (by decide) ?_
    refine z_widen (k := 0) (n := 0) (Nat.le_of_ble_eq_true rfl) (Nat.le_of_ble_eq_true rfl) ?_
    exact H15 (1 : Int32) f_town_hour f_town_day f_town_prankHouse f_town_bells f_town_echoes f_town_bellPranks f_town_houses_size a_town_houses_cells a_town_houses_froms a_town_houses_tos a_town_houses_rings a_town_houses_pranks f_town_halls_size a_town_halls_rows a_town_halls_firsts a_town_halls_lasts f_town_posts_size a_town_posts_cells a_town_posts_tolds a_town_blocks a_town_kinds f_past_size f_past_next h
