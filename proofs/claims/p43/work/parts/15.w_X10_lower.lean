def J_X10_lower_95 (p2 : Int32) (a_p1_blocks : Nat → Int32) (r21 : Int32 → Int32 → (Nat → Int32) → Option ((Nat → Int32))) (r37 : Int32 → Int32 → Int32 → (Nat → Int32) → Option ((Nat → Int32))) (t0 : Int32) (x4 : Int32) (x5 : Int32) (a_lows : Nat → Int32) : Option ((Nat → Int32)) :=
  r37 t0 x4 (x5 + 1) a_lows

def J_X10_lower_90 (p2 : Int32) (a_p1_blocks : Nat → Int32) (r21 : Int32 → Int32 → (Nat → Int32) → Option ((Nat → Int32))) (r37 : Int32 → Int32 → Int32 → (Nat → Int32) → Option ((Nat → Int32))) (x4 : Int32) (x5 : Int32) (a_lows : Nat → Int32) : Option ((Nat → Int32)) :=
  J_X10_lower_95 p2 a_p1_blocks (r21) (r37) (1 : Int32) x4 x5 a_lows

def J_X10_lower_69 (p2 : Int32) (a_p1_blocks : Nat → Int32) (r21 : Int32 → Int32 → (Nat → Int32) → Option ((Nat → Int32))) (r37 : Int32 → Int32 → Int32 → (Nat → Int32) → Option ((Nat → Int32))) (t0 : Int32) (x4 : Int32) (x5 : Int32) (a_lows : Nat → Int32) : Option ((Nat → Int32)) :=
  bnd (F_X0_nextTo x5 (3 : Int32)) (fun o9 => bnd (F_X10_lowerAlong x5 o9 a_p1_blocks a_lows) (fun o11 => brn (o11.1 = 0) (brn (t0 = 0) (J_X10_lower_95 p2 a_p1_blocks (r21) (r37) (0 : Int32) x4 x5 o11.2) (J_X10_lower_90 p2 a_p1_blocks (r21) (r37) x4 x5 o11.2)) (J_X10_lower_90 p2 a_p1_blocks (r21) (r37) x4 x5 o11.2)))

def J_X10_lower_64 (p2 : Int32) (a_p1_blocks : Nat → Int32) (r21 : Int32 → Int32 → (Nat → Int32) → Option ((Nat → Int32))) (r37 : Int32 → Int32 → Int32 → (Nat → Int32) → Option ((Nat → Int32))) (x4 : Int32) (x5 : Int32) (a_lows : Nat → Int32) : Option ((Nat → Int32)) :=
  J_X10_lower_69 p2 a_p1_blocks (r21) (r37) (1 : Int32) x4 x5 a_lows

def L_X10_lower_37 (p2 : Int32) (a_p1_blocks : Nat → Int32) (r21 : Int32 → Int32 → (Nat → Int32) → Option ((Nat → Int32))) : Nat → Int32 → Int32 → Int32 → (Nat → Int32) → Option ((Nat → Int32))
  | 0, _, _, _, _ => none
  | _n + 1, x3, x4, x5, a_lows =>
    brn ((64 : Int32) ≤ x5) (r21 x3 (x4 + 1) a_lows) (bnd (F_X0_nextTo x5 (1 : Int32)) (fun o5 => bnd (F_X10_lowerAlong x5 o5 a_p1_blocks a_lows) (fun o7 => brn (o7.1 = 0) (brn (x3 = 0) (J_X10_lower_69 p2 a_p1_blocks (r21) (L_X10_lower_37 p2 a_p1_blocks r21 _n) (0 : Int32) x4 x5 o7.2) (J_X10_lower_64 p2 a_p1_blocks (r21) (L_X10_lower_37 p2 a_p1_blocks r21 _n) x4 x5 o7.2)) (J_X10_lower_64 p2 a_p1_blocks (r21) (L_X10_lower_37 p2 a_p1_blocks r21 _n) x4 x5 o7.2))))

def L_X10_lower_21 (p2 : Int32) (a_p1_blocks : Nat → Int32) : Nat → Int32 → Int32 → (Nat → Int32) → Option ((Nat → Int32))
  | 0, _, _, _ => none
  | _n + 1, x3, x4, a_lows =>
    brn ((64 : Int32) < x4) (some (a_lows)) (brn (x3 = 0) (some (a_lows)) (L_X10_lower_37 p2 a_p1_blocks (L_X10_lower_21 p2 a_p1_blocks _n) 100 (0 : Int32) x4 (0 : Int32) a_lows))

def F_X10_lower (p2 : Int32) (a_p1_blocks : Nat → Int32) (a_lows : Nat → Int32) : Option ((Nat → Int32)) :=
  bnd (F_X10_clear 64 a_lows) (fun o1 => bnd (F_X7_put 64 p2 (0 : Int32) o1) (fun o3 => L_X10_lower_21 p2 a_p1_blocks 100 (1 : Int32) (0 : Int32) o3))
theorem dX10_lower_0 : decode cX10_lower 0 = .ok (.aload_n 0, 1) := by decide +kernel
theorem dX10_lower_1 : decode cX10_lower 1 = .ok (.getfield 18, 3) := by decide +kernel
theorem dX10_lower_4 : decode cX10_lower 4 = .ok (.invokestatic 64, 3) := by decide +kernel
theorem dX10_lower_7 : decode cX10_lower 7 = .ok (.aload_n 0, 1) := by decide +kernel
theorem dX10_lower_8 : decode cX10_lower 8 = .ok (.getfield 18, 3) := by decide +kernel
theorem dX10_lower_11 : decode cX10_lower 11 = .ok (.iload_n 2, 1) := by decide +kernel
theorem dX10_lower_12 : decode cX10_lower 12 = .ok (.iconst 0, 1) := by decide +kernel
theorem dX10_lower_13 : decode cX10_lower 13 = .ok (.invokestatic 68, 3) := by decide +kernel
theorem dX10_lower_16 : decode cX10_lower 16 = .ok (.iconst 1, 1) := by decide +kernel
theorem dX10_lower_17 : decode cX10_lower 17 = .ok (.istore_n 3, 1) := by decide +kernel
theorem dX10_lower_18 : decode cX10_lower 18 = .ok (.iconst 0, 1) := by decide +kernel
theorem dX10_lower_19 : decode cX10_lower 19 = .ok (.istore 4, 2) := by decide +kernel
theorem dX10_lower_21 : decode cX10_lower 21 = .ok (.iload 4, 2) := by decide +kernel
theorem dX10_lower_23 : decode cX10_lower 23 = .ok (.bipush 64, 2) := by decide +kernel
theorem dX10_lower_25 : decode cX10_lower 25 = .ok (.if_icmp .gt 83, 3) := by decide +kernel
theorem dX10_lower_28 : decode cX10_lower 28 = .ok (.iload_n 3, 1) := by decide +kernel
theorem dX10_lower_29 : decode cX10_lower 29 = .ok (.ifCond .eq 79, 3) := by decide +kernel
theorem dX10_lower_32 : decode cX10_lower 32 = .ok (.iconst 0, 1) := by decide +kernel
theorem dX10_lower_33 : decode cX10_lower 33 = .ok (.istore_n 3, 1) := by decide +kernel
theorem dX10_lower_34 : decode cX10_lower 34 = .ok (.iconst 0, 1) := by decide +kernel
theorem dX10_lower_35 : decode cX10_lower 35 = .ok (.istore 5, 2) := by decide +kernel
theorem dX10_lower_37 : decode cX10_lower 37 = .ok (.iload 5, 2) := by decide +kernel
theorem dX10_lower_39 : decode cX10_lower 39 = .ok (.bipush 64, 2) := by decide +kernel
theorem dX10_lower_41 : decode cX10_lower 41 = .ok (.if_icmp .ge 61, 3) := by decide +kernel
theorem dX10_lower_44 : decode cX10_lower 44 = .ok (.aload_n 0, 1) := by decide +kernel
theorem dX10_lower_45 : decode cX10_lower 45 = .ok (.aload_n 1, 1) := by decide +kernel
theorem dX10_lower_46 : decode cX10_lower 46 = .ok (.iload 5, 2) := by decide +kernel
theorem dX10_lower_48 : decode cX10_lower 48 = .ok (.iload 5, 2) := by decide +kernel
theorem dX10_lower_50 : decode cX10_lower 50 = .ok (.iconst 1, 1) := by decide +kernel
theorem dX10_lower_51 : decode cX10_lower 51 = .ok (.invokestatic 72, 3) := by decide +kernel
theorem dX10_lower_54 : decode cX10_lower 54 = .ok (.invokevirtual 81, 3) := by decide +kernel
theorem dX10_lower_57 : decode cX10_lower 57 = .ok (.ifCond .ne 7, 3) := by decide +kernel
theorem dX10_lower_60 : decode cX10_lower 60 = .ok (.iload_n 3, 1) := by decide +kernel
theorem dX10_lower_61 : decode cX10_lower 61 = .ok (.ifCond .eq 7, 3) := by decide +kernel
theorem dX10_lower_64 : decode cX10_lower 64 = .ok (.iconst 1, 1) := by decide +kernel
theorem dX10_lower_65 : decode cX10_lower 65 = .ok (.goto 4, 3) := by decide +kernel
theorem dX10_lower_68 : decode cX10_lower 68 = .ok (.iconst 0, 1) := by decide +kernel
theorem dX10_lower_69 : decode cX10_lower 69 = .ok (.istore_n 3, 1) := by decide +kernel
theorem dX10_lower_70 : decode cX10_lower 70 = .ok (.aload_n 0, 1) := by decide +kernel
theorem dX10_lower_71 : decode cX10_lower 71 = .ok (.aload_n 1, 1) := by decide +kernel
theorem dX10_lower_72 : decode cX10_lower 72 = .ok (.iload 5, 2) := by decide +kernel
theorem dX10_lower_74 : decode cX10_lower 74 = .ok (.iload 5, 2) := by decide +kernel
theorem dX10_lower_76 : decode cX10_lower 76 = .ok (.iconst 3, 1) := by decide +kernel
theorem dX10_lower_77 : decode cX10_lower 77 = .ok (.invokestatic 72, 3) := by decide +kernel
theorem dX10_lower_80 : decode cX10_lower 80 = .ok (.invokevirtual 81, 3) := by decide +kernel
theorem dX10_lower_83 : decode cX10_lower 83 = .ok (.ifCond .ne 7, 3) := by decide +kernel
theorem dX10_lower_86 : decode cX10_lower 86 = .ok (.iload_n 3, 1) := by decide +kernel
theorem dX10_lower_87 : decode cX10_lower 87 = .ok (.ifCond .eq 7, 3) := by decide +kernel
theorem dX10_lower_90 : decode cX10_lower 90 = .ok (.iconst 1, 1) := by decide +kernel
theorem dX10_lower_91 : decode cX10_lower 91 = .ok (.goto 4, 3) := by decide +kernel
theorem dX10_lower_94 : decode cX10_lower 94 = .ok (.iconst 0, 1) := by decide +kernel
theorem dX10_lower_95 : decode cX10_lower 95 = .ok (.istore_n 3, 1) := by decide +kernel
theorem dX10_lower_96 : decode cX10_lower 96 = .ok (.iinc 5 1, 3) := by decide +kernel
theorem dX10_lower_99 : decode cX10_lower 99 = .ok (.goto (-62), 3) := by decide +kernel
theorem dX10_lower_102 : decode cX10_lower 102 = .ok (.iinc 4 1, 3) := by decide +kernel
theorem dX10_lower_105 : decode cX10_lower 105 = .ok (.goto (-84), 3) := by decide +kernel
theorem dX10_lower_108 : decode cX10_lower 108 = .ok (.return_, 1) := by decide +kernel
theorem k_X10_lower : cardV yX10_lower (Cond.code yX10_lower cX10_lower 6 none) 2 := ⟨⟨qi_X10_lower, qv_X10_lower⟩, qc_X10_lower, qn_X10, by decide +kernel, by decide +kernel, by decide +kernel⟩
set_option maxHeartbeats 4000000 in
set_option maxRecDepth 100000 in
theorem c_X10_lower (l : Launch) (D : va_G) (g : Nat → ClassId) (q_this q_steps q_queue q_lows q_stops q_p1 q_p1_houses q_p1_halls q_p1_posts q_p1_blocks q_p1_kinds : Nat) (p2 : Int32) (f_stopCount : Int32) (f_stepSum : Int32) (a_lows : Nat → Int32) (f_p1_hour : Int32) (f_p1_day : Int32) (f_p1_prankHouse : Int32) (f_p1_bells : Int32) (f_p1_echoes : Int32) (f_p1_bellPranks : Int32) (a_p1_blocks : Nat → Int32) (o : (Nat → Int32)) (h : F_X10_lower p2 a_p1_blocks a_lows = some o) : MW l yX10_lower (Cond.code yX10_lower cX10_lower 6 none) { frames := 4, cells := 0, slots := 0, locals := 92 } D g [.ref q_this, .ref q_p1, .int p2] [(q_this, .inr (10, [.ref q_steps, .ref q_queue, .ref q_lows, .ref q_stops, .int f_stopCount, .int f_stepSum])), (q_lows, .inl (g 0, 64, .inl a_lows)), (q_p1, .inr (9, [.ref q_p1_houses, .ref q_p1_halls, .ref q_p1_posts, .ref q_p1_blocks, .ref q_p1_kinds, .int f_p1_hour, .int f_p1_day, .int f_p1_prankHouse, .int f_p1_bells, .int f_p1_echoes, .int f_p1_bellPranks])), (q_p1_blocks, .inl (g 0, 64, .inl a_p1_blocks))] none [(q_this, .inr (10, [.ref q_steps, .ref q_queue, .ref q_lows, .ref q_stops, .int f_stopCount, .int f_stepSum])), (q_lows, .inl (g 0, 64, .inl o)), (q_p1, .inr (9, [.ref q_p1_houses, .ref q_p1_halls, .ref q_p1_posts, .ref q_p1_blocks, .ref q_p1_kinds, .int f_p1_hour, .int f_p1_day, .int f_p1_prankHouse, .int f_p1_bells, .int f_p1_echoes, .int f_p1_bellPranks])), (q_p1_blocks, .inl (g 0, 64, .inl a_p1_blocks))] := by
  refine z_wr_start (by decide) (Nat.le_of_ble_eq_true rfl) ?_
  intro p e s m args below meth c Q A X hr hQ hA
  refine z_lv (lv' := [(0, .ref q_this), (1, .ref q_p1), (2, .int p2)]) rfl ?_
  have H21 : ∀ (n : Nat) (x3 : Int32) (x4 : Int32) (a_lows : Nat → Int32), L_X10_lower_21 p2 a_p1_blocks  n x3 x4 a_lows = some o → Z p l e { frames := 4, cells := 0, slots := 0, locals := 92 } s m args below meth c Q 6 0 0 (IW D A s [(q_this, .inr (10, [.ref q_steps, .ref q_queue, .ref q_lows, .ref q_stops, .int f_stopCount, .int f_stepSum])), (q_lows, .inl (g 0, 64, .inl a_lows)), (q_p1, .inr (9, [.ref q_p1_houses, .ref q_p1_halls, .ref q_p1_posts, .ref q_p1_blocks, .ref q_p1_kinds, .int f_p1_hour, .int f_p1_day, .int f_p1_prankHouse, .int f_p1_bells, .int f_p1_echoes, .int f_p1_bellPranks])), (q_p1_blocks, .inl (g 0, 64, .inl a_p1_blocks))]) 21 [(0, .ref q_this), (1, .ref q_p1), (3, .int x3), (4, .int x4)] [] := by
    intro n
    induction n with
    | zero => intro x3 x4 a_lows h; cases h
    | succ n21 ih21 =>
      intro x3 x4 a_lows h
      have H37 : ∀ (n : Nat) (x3 : Int32) (x4 : Int32) (x5 : Int32) (a_lows : Nat → Int32), L_X10_lower_37 p2 a_p1_blocks (L_X10_lower_21 p2 a_p1_blocks n21) n x3 x4 x5 a_lows = some o → Z p l e { frames := 4, cells := 0, slots := 0, locals := 92 } s m args below meth c Q 6 0 0 (IW D A s [(q_this, .inr (10, [.ref q_steps, .ref q_queue, .ref q_lows, .ref q_stops, .int f_stopCount, .int f_stepSum])), (q_lows, .inl (g 0, 64, .inl a_lows)), (q_p1, .inr (9, [.ref q_p1_houses, .ref q_p1_halls, .ref q_p1_posts, .ref q_p1_blocks, .ref q_p1_kinds, .int f_p1_hour, .int f_p1_day, .int f_p1_prankHouse, .int f_p1_bells, .int f_p1_echoes, .int f_p1_bellPranks])), (q_p1_blocks, .inl (g 0, 64, .inl a_p1_blocks))]) 37 [(0, .ref q_this), (1, .ref q_p1), (3, .int x3), (4, .int x4), (5, .int x5)] [] := by
        intro n
        induction n with
        | zero => intro x3 x4 x5 a_lows h; cases h
        | succ n37 ih37 =>
          intro x3 x4 x5 a_lows h
          have H95 : ∀ (t0 : Int32) (x4 : Int32) (x5 : Int32) (a_lows : Nat → Int32), J_X10_lower_95 p2 a_p1_blocks (L_X10_lower_21 p2 a_p1_blocks n21) (L_X10_lower_37 p2 a_p1_blocks (L_X10_lower_21 p2 a_p1_blocks n21) n37) t0 x4 x5 a_lows = some o → Z p l e { frames := 4, cells := 0, slots := 0, locals := 92 } s m args below meth c Q 6 0 0 (IW D A s [(q_this, .inr (10, [.ref q_steps, .ref q_queue, .ref q_lows, .ref q_stops, .int f_stopCount, .int f_stepSum])), (q_lows, .inl (g 0, 64, .inl a_lows)), (q_p1, .inr (9, [.ref q_p1_houses, .ref q_p1_halls, .ref q_p1_posts, .ref q_p1_blocks, .ref q_p1_kinds, .int f_p1_hour, .int f_p1_day, .int f_p1_prankHouse, .int f_p1_bells, .int f_p1_echoes, .int f_p1_bellPranks])), (q_p1_blocks, .inl (g 0, 64, .inl a_p1_blocks))]) 95 [(0, .ref q_this), (1, .ref q_p1), (4, .int x4), (5, .int x5)] [.int t0] := by
            intro t0 x4 x5 a_lows h
            refine z_istore_n X [(3, .int t0), (0, .ref q_this), (1, .ref q_p1), (4, .int x4), (5, .int x5)] dX10_lower_95 rfl (by decide) rfl ?_
            refine z_iinc X 4 [(5, .int (x5 + 1)), (3, .int t0), (0, .ref q_this), (1, .ref q_p1), (4, .int x4)] dX10_lower_96 rfl rfl (by decide) rfl ?_
            refine z_goto X 37 dX10_lower_99 (by decide) ?_
            refine z_sub (lv' := [(0, .ref q_this), (1, .ref q_p1), (3, .int t0), (4, .int x4), (5, .int (x5 + 1))]) [2, 3, 1, 4, 0] rfl ?_
            exact ih37 t0 x4 (x5 + 1) a_lows h
          have H90 : ∀ (x4 : Int32) (x5 : Int32) (a_lows : Nat → Int32), J_X10_lower_90 p2 a_p1_blocks (L_X10_lower_21 p2 a_p1_blocks n21) (L_X10_lower_37 p2 a_p1_blocks (L_X10_lower_21 p2 a_p1_blocks n21) n37) x4 x5 a_lows = some o → Z p l e { frames := 4, cells := 0, slots := 0, locals := 92 } s m args below meth c Q 6 0 0 (IW D A s [(q_this, .inr (10, [.ref q_steps, .ref q_queue, .ref q_lows, .ref q_stops, .int f_stopCount, .int f_stepSum])), (q_lows, .inl (g 0, 64, .inl a_lows)), (q_p1, .inr (9, [.ref q_p1_houses, .ref q_p1_halls, .ref q_p1_posts, .ref q_p1_blocks, .ref q_p1_kinds, .int f_p1_hour, .int f_p1_day, .int f_p1_prankHouse, .int f_p1_bells, .int f_p1_echoes, .int f_p1_bellPranks])), (q_p1_blocks, .inl (g 0, 64, .inl a_p1_blocks))]) 90 [(0, .ref q_this), (1, .ref q_p1), (4, .int x4), (5, .int x5)] [] := by
            intro x4 x5 a_lows h
            refine z_iconst X (1 : Int32) dX10_lower_90 (by decide) ?_
            refine z_goto X 95 dX10_lower_91 (by decide) ?_
            exact H95 (1 : Int32) x4 x5 a_lows h
          have H69 : ∀ (t0 : Int32) (x4 : Int32) (x5 : Int32) (a_lows : Nat → Int32), J_X10_lower_69 p2 a_p1_blocks (L_X10_lower_21 p2 a_p1_blocks n21) (L_X10_lower_37 p2 a_p1_blocks (L_X10_lower_21 p2 a_p1_blocks n21) n37) t0 x4 x5 a_lows = some o → Z p l e { frames := 4, cells := 0, slots := 0, locals := 92 } s m args below meth c Q 6 0 0 (IW D A s [(q_this, .inr (10, [.ref q_steps, .ref q_queue, .ref q_lows, .ref q_stops, .int f_stopCount, .int f_stepSum])), (q_lows, .inl (g 0, 64, .inl a_lows)), (q_p1, .inr (9, [.ref q_p1_houses, .ref q_p1_halls, .ref q_p1_posts, .ref q_p1_blocks, .ref q_p1_kinds, .int f_p1_hour, .int f_p1_day, .int f_p1_prankHouse, .int f_p1_bells, .int f_p1_echoes, .int f_p1_bellPranks])), (q_p1_blocks, .inl (g 0, 64, .inl a_p1_blocks))]) 69 [(0, .ref q_this), (1, .ref q_p1), (4, .int x4), (5, .int x5)] [.int t0] := by
            intro t0 x4 x5 a_lows h
            refine z_istore_n X [(3, .int t0), (0, .ref q_this), (1, .ref q_p1), (4, .int x4), (5, .int x5)] dX10_lower_69 rfl (by decide) rfl ?_
            refine z_aload_n X 1 dX10_lower_70 rfl rfl ?_
            refine z_aload_n X 2 dX10_lower_71 rfl rfl ?_
            refine z_iload X 4 dX10_lower_72 rfl ?_
            refine z_iload X 4 dX10_lower_74 rfl ?_
            refine z_iconst X (3 : Int32) dX10_lower_76 (by decide) ?_
            obtain ⟨o9, e10, h⟩ := bnd_p h
            refine z_rdS (rest := [.int x5, .ref q_p1, .ref q_this]) X IW_P k_X0_nextTo (c_X0_nextTo l D g x5 (3 : Int32) o9 e10) ql_X10_X0_nextTo dX10_lower_77 [] rfl rfl rfl ⟨Nat.le_of_ble_eq_true rfl, Nat.le_of_ble_eq_true rfl, rfl, rfl, Nat.le_of_ble_eq_true rfl, Nat.le_of_ble_eq_true rfl⟩ (Nat.le_of_ble_eq_true rfl) ?_
            obtain ⟨o11, e12, h⟩ := bnd_p h
            refine z_wrV (rest := []) (q0 := 0) (ci := 10) (ws' := [(q_this, .inr (10, [.ref q_steps, .ref q_queue, .ref q_lows, .ref q_stops, .int f_stopCount, .int f_stepSum])), (q_lows, .inl (g 0, 64, .inl o11.2)), (q_p1, .inr (9, [.ref q_p1_houses, .ref q_p1_halls, .ref q_p1_posts, .ref q_p1_blocks, .ref q_p1_kinds, .int f_p1_hour, .int f_p1_day, .int f_p1_prankHouse, .int f_p1_bells, .int f_p1_echoes, .int f_p1_bellPranks])), (q_p1_blocks, .inl (g 0, 64, .inl a_p1_blocks))]) (wr := []) (as := [q_this, q_lows, q_p1, q_p1_blocks]) X k_X10_lowerAlong (c_X10_lowerAlong l D g q_this q_steps q_queue q_lows q_stops q_p1 q_p1_houses q_p1_halls q_p1_posts q_p1_blocks q_p1_kinds x5 o9 f_stopCount f_stepSum a_lows f_p1_hour f_p1_day f_p1_prankHouse f_p1_bells f_p1_echoes f_p1_bellPranks a_p1_blocks o11 e12) ql_X10_X10_lowerAlong dX10_lower_80 [0, 1, 2, 3] [] ⟨rfl, rfl, rfl, rfl, rfl, rfl, rfl, rfl⟩ rfl rfl rfl rfl rfl ⟨Nat.le_of_ble_eq_true rfl, Nat.le_of_ble_eq_true rfl, rfl, rfl, Nat.le_of_ble_eq_true rfl, Nat.le_of_ble_eq_true rfl⟩ (Nat.le_of_ble_eq_true rfl) ?_
            refine z_if_ne X 90 dX10_lower_83 (by decide) h (fun _ h => ?_) (fun _ h => ?_)
            · refine z_iload_n X 0 dX10_lower_86 rfl rfl ?_
              refine z_if_eq X 94 dX10_lower_87 (by decide) h (fun _ h => ?_) (fun _ h => ?_)
              · refine z_iconst X (0 : Int32) dX10_lower_94 (by decide) ?_
                refine z_sub (lv' := [(0, .ref q_this), (1, .ref q_p1), (4, .int x4), (5, .int x5)]) [1, 2, 3, 4] rfl ?_
                exact H95 (0 : Int32) x4 x5 o11.2 h
              · refine z_sub (lv' := [(0, .ref q_this), (1, .ref q_p1), (4, .int x4), (5, .int x5)]) [1, 2, 3, 4] rfl ?_
                exact H90 x4 x5 o11.2 h
            · refine z_sub (lv' := [(0, .ref q_this), (1, .ref q_p1), (4, .int x4), (5, .int x5)]) [1, 2, 3, 4] rfl ?_
              exact H90 x4 x5 o11.2 h
          have H64 : ∀ (x4 : Int32) (x5 : Int32) (a_lows : Nat → Int32), J_X10_lower_64 p2 a_p1_blocks (L_X10_lower_21 p2 a_p1_blocks n21) (L_X10_lower_37 p2 a_p1_blocks (L_X10_lower_21 p2 a_p1_blocks n21) n37) x4 x5 a_lows = some o → Z p l e { frames := 4, cells := 0, slots := 0, locals := 92 } s m args below meth c Q 6 0 0 (IW D A s [(q_this, .inr (10, [.ref q_steps, .ref q_queue, .ref q_lows, .ref q_stops, .int f_stopCount, .int f_stepSum])), (q_lows, .inl (g 0, 64, .inl a_lows)), (q_p1, .inr (9, [.ref q_p1_houses, .ref q_p1_halls, .ref q_p1_posts, .ref q_p1_blocks, .ref q_p1_kinds, .int f_p1_hour, .int f_p1_day, .int f_p1_prankHouse, .int f_p1_bells, .int f_p1_echoes, .int f_p1_bellPranks])), (q_p1_blocks, .inl (g 0, 64, .inl a_p1_blocks))]) 64 [(0, .ref q_this), (1, .ref q_p1), (4, .int x4), (5, .int x5)] [] := by
            intro x4 x5 a_lows h
            refine z_iconst X (1 : Int32) dX10_lower_64 (by decide) ?_
            refine z_goto X 69 dX10_lower_65 (by decide) ?_
            exact H69 (1 : Int32) x4 x5 a_lows h
          refine z_iload X 4 dX10_lower_37 rfl ?_
          refine z_bipush X (64 : Int32) dX10_lower_39 (by decide) ?_
          refine z_icmp_ge X 102 dX10_lower_41 (by decide) h (fun _ h => ?_) (fun _ h => ?_)
          · refine z_iinc X 3 [(4, .int (x4 + 1)), (0, .ref q_this), (1, .ref q_p1), (3, .int x3), (5, .int x5)] dX10_lower_102 rfl rfl (by decide) rfl ?_
            refine z_goto X 21 dX10_lower_105 (by decide) ?_
            refine z_sub (lv' := [(0, .ref q_this), (1, .ref q_p1), (3, .int x3), (4, .int (x4 + 1))]) [1, 2, 3, 0] rfl ?_
            exact ih21 x3 (x4 + 1) a_lows h
          · refine z_aload_n X 0 dX10_lower_44 rfl rfl ?_
            refine z_aload_n X 1 dX10_lower_45 rfl rfl ?_
            refine z_iload X 4 dX10_lower_46 rfl ?_
            refine z_iload X 4 dX10_lower_48 rfl ?_
            refine z_iconst X (1 : Int32) dX10_lower_50 (by decide) ?_
            obtain ⟨o5, e6, h⟩ := bnd_p h
            refine z_rdS (rest := [.int x5, .ref q_p1, .ref q_this]) X IW_P k_X0_nextTo (c_X0_nextTo l D g x5 (1 : Int32) o5 e6) ql_X10_X0_nextTo dX10_lower_51 [] rfl rfl rfl ⟨Nat.le_of_ble_eq_true rfl, Nat.le_of_ble_eq_true rfl, rfl, rfl, Nat.le_of_ble_eq_true rfl, Nat.le_of_ble_eq_true rfl⟩ (Nat.le_of_ble_eq_true rfl) ?_
            obtain ⟨o7, e8, h⟩ := bnd_p h
            refine z_wrV (rest := []) (q0 := 0) (ci := 10) (ws' := [(q_this, .inr (10, [.ref q_steps, .ref q_queue, .ref q_lows, .ref q_stops, .int f_stopCount, .int f_stepSum])), (q_lows, .inl (g 0, 64, .inl o7.2)), (q_p1, .inr (9, [.ref q_p1_houses, .ref q_p1_halls, .ref q_p1_posts, .ref q_p1_blocks, .ref q_p1_kinds, .int f_p1_hour, .int f_p1_day, .int f_p1_prankHouse, .int f_p1_bells, .int f_p1_echoes, .int f_p1_bellPranks])), (q_p1_blocks, .inl (g 0, 64, .inl a_p1_blocks))]) (wr := []) (as := [q_this, q_lows, q_p1, q_p1_blocks]) X k_X10_lowerAlong (c_X10_lowerAlong l D g q_this q_steps q_queue q_lows q_stops q_p1 q_p1_houses q_p1_halls q_p1_posts q_p1_blocks q_p1_kinds x5 o5 f_stopCount f_stepSum a_lows f_p1_hour f_p1_day f_p1_prankHouse f_p1_bells f_p1_echoes f_p1_bellPranks a_p1_blocks o7 e8) ql_X10_X10_lowerAlong dX10_lower_54 [0, 1, 2, 3] [] ⟨rfl, rfl, rfl, rfl, rfl, rfl, rfl, rfl⟩ rfl rfl rfl rfl rfl ⟨Nat.le_of_ble_eq_true rfl, Nat.le_of_ble_eq_true rfl, rfl, rfl, Nat.le_of_ble_eq_true rfl, Nat.le_of_ble_eq_true rfl⟩ (Nat.le_of_ble_eq_true rfl) ?_
            refine z_if_ne X 64 dX10_lower_57 (by decide) h (fun _ h => ?_) (fun _ h => ?_)
            · refine z_iload_n X 2 dX10_lower_60 rfl rfl ?_
              refine z_if_eq X 68 dX10_lower_61 (by decide) h (fun _ h => ?_) (fun _ h => ?_)
              · refine z_iconst X (0 : Int32) dX10_lower_68 (by decide) ?_
                refine z_sub (lv' := [(0, .ref q_this), (1, .ref q_p1), (4, .int x4), (5, .int x5)]) [0, 1, 3, 4] rfl ?_
                exact H69 (0 : Int32) x4 x5 o7.2 h
              · refine z_sub (lv' := [(0, .ref q_this), (1, .ref q_p1), (4, .int x4), (5, .int x5)]) [0, 1, 3, 4] rfl ?_
                exact H64 x4 x5 o7.2 h
            · refine z_sub (lv' := [(0, .ref q_this), (1, .ref q_p1), (4, .int x4), (5, .int x5)]) [0, 1, 3, 4] rfl ?_
              exact H64 x4 x5 o7.2 h
      refine z_iload X 3 dX10_lower_21 rfl ?_
      refine z_bipush X (64 : Int32) dX10_lower_23 (by decide) ?_
      refine z_icmp_gt X 108 dX10_lower_25 (by decide) h (fun _ h => ?_) (fun _ h => ?_)
      · cases h
        exact z_vretW X hQ hA hr dX10_lower_108
      · refine z_iload_n X 2 dX10_lower_28 rfl rfl ?_
        refine z_if_eq X 108 dX10_lower_29 (by decide) h (fun _ h => ?_) (fun _ h => ?_)
        · cases h
          exact z_vretW X hQ hA hr dX10_lower_108
        · refine z_iconst X (0 : Int32) dX10_lower_32 (by decide) ?_
          refine z_istore_n X [(3, .int (0 : Int32)), (0, .ref q_this), (1, .ref q_p1), (4, .int x4)] dX10_lower_33 rfl (by decide) rfl ?_
          refine z_iconst X (0 : Int32) dX10_lower_34 (by decide) ?_
          refine z_istore X [(5, .int (0 : Int32)), (3, .int (0 : Int32)), (0, .ref q_this), (1, .ref q_p1), (4, .int x4)] dX10_lower_35 (by decide) rfl ?_
          refine z_sub (lv' := [(0, .ref q_this), (1, .ref q_p1), (3, .int (0 : Int32)), (4, .int x4), (5, .int (0 : Int32))]) [2, 3, 1, 4, 0] rfl ?_
          exact H37 100 (0 : Int32) x4 (0 : Int32) a_lows h
  refine z_aload_n X 0 dX10_lower_0 rfl rfl ?_
  refine z_get (q0 := 0) (k := 2) (ci := 10) X IW_P iw_X10 rfl qf_X10_X10_lows (by decide) dX10_lower_1 rfl rfl ?_
  obtain ⟨o1, e2, h⟩ := bnd_p h
  refine z_wrS (rest := []) (ws' := [(q_this, .inr (10, [.ref q_steps, .ref q_queue, .ref q_lows, .ref q_stops, .int f_stopCount, .int f_stepSum])), (q_lows, .inl (g 0, 64, .inl o1)), (q_p1, .inr (9, [.ref q_p1_houses, .ref q_p1_halls, .ref q_p1_posts, .ref q_p1_blocks, .ref q_p1_kinds, .int f_p1_hour, .int f_p1_day, .int f_p1_prankHouse, .int f_p1_bells, .int f_p1_echoes, .int f_p1_bellPranks])), (q_p1_blocks, .inl (g 0, 64, .inl a_p1_blocks))]) (wr := [(q_this, .inr (10, [.ref q_steps, .ref q_queue, .ref q_lows, .ref q_stops, .int f_stopCount, .int f_stepSum])), (q_p1, .inr (9, [.ref q_p1_houses, .ref q_p1_halls, .ref q_p1_posts, .ref q_p1_blocks, .ref q_p1_kinds, .int f_p1_hour, .int f_p1_day, .int f_p1_prankHouse, .int f_p1_bells, .int f_p1_echoes, .int f_p1_bellPranks])), (q_p1_blocks, .inl (g 0, 64, .inl a_p1_blocks))]) (as := [q_this, q_lows, q_p1, q_p1_blocks]) X k_X10_clear (c_X10_clear l D g q_lows 64 a_lows o1 e2) ql_X10_X10_clear dX10_lower_4 [1] [0, 2, 3] ⟨rfl, rfl, rfl, rfl, rfl, rfl, rfl, rfl⟩ rfl rfl ⟨Nat.le_of_ble_eq_true rfl, Nat.le_of_ble_eq_true rfl, rfl, rfl, Nat.le_of_ble_eq_true rfl, Nat.le_of_ble_eq_true rfl⟩ (Nat.le_of_ble_eq_true rfl) ?_
  refine z_aload_n X 0 dX10_lower_7 rfl rfl ?_
  refine z_get (q0 := 0) (k := 2) (ci := 10) X IW_P iw_X10 rfl qf_X10_X10_lows (by decide) dX10_lower_8 rfl rfl ?_
  refine z_iload_n X 2 dX10_lower_11 rfl rfl ?_
  refine z_iconst X (0 : Int32) dX10_lower_12 (by decide) ?_
  obtain ⟨o3, e4, h⟩ := bnd_p h
  refine z_wrS (rest := []) (ws' := [(q_this, .inr (10, [.ref q_steps, .ref q_queue, .ref q_lows, .ref q_stops, .int f_stopCount, .int f_stepSum])), (q_lows, .inl (g 0, 64, .inl o3)), (q_p1, .inr (9, [.ref q_p1_houses, .ref q_p1_halls, .ref q_p1_posts, .ref q_p1_blocks, .ref q_p1_kinds, .int f_p1_hour, .int f_p1_day, .int f_p1_prankHouse, .int f_p1_bells, .int f_p1_echoes, .int f_p1_bellPranks])), (q_p1_blocks, .inl (g 0, 64, .inl a_p1_blocks))]) (wr := [(q_this, .inr (10, [.ref q_steps, .ref q_queue, .ref q_lows, .ref q_stops, .int f_stopCount, .int f_stepSum])), (q_p1, .inr (9, [.ref q_p1_houses, .ref q_p1_halls, .ref q_p1_posts, .ref q_p1_blocks, .ref q_p1_kinds, .int f_p1_hour, .int f_p1_day, .int f_p1_prankHouse, .int f_p1_bells, .int f_p1_echoes, .int f_p1_bellPranks])), (q_p1_blocks, .inl (g 0, 64, .inl a_p1_blocks))]) (as := [q_this, q_lows, q_p1, q_p1_blocks]) X k_X7_put (c_X7_put l D g q_lows 64 p2 (0 : Int32) o1 o3 e4) ql_X10_X7_put dX10_lower_13 [1] [0, 2, 3] ⟨rfl, rfl, rfl, rfl, rfl, rfl, rfl, rfl⟩ rfl rfl ⟨Nat.le_of_ble_eq_true rfl, Nat.le_of_ble_eq_true rfl, rfl, rfl, Nat.le_of_ble_eq_true rfl, Nat.le_of_ble_eq_true rfl⟩ (Nat.le_of_ble_eq_true rfl) ?_
  refine z_iconst X (1 : Int32) dX10_lower_16 (by decide) ?_
  refine z_istore_n X [(3, .int (1 : Int32)), (0, .ref q_this), (1, .ref q_p1), (2, .int p2)] dX10_lower_17 rfl (by decide) rfl ?_
  refine z_iconst X (0 : Int32) dX10_lower_18 (by decide) ?_
  refine z_istore X [(4, .int (0 : Int32)), (3, .int (1 : Int32)), (0, .ref q_this), (1, .ref q_p1), (2, .int p2)] dX10_lower_19 (by decide) rfl ?_
  refine z_sub (lv' := [(0, .ref q_this), (1, .ref q_p1), (3, .int (1 : Int32)), (4, .int (0 : Int32))]) [2, 3, 1, 0] rfl ?_
  exact H21 100 (1 : Int32) (0 : Int32) o3 h

def F_X10_lowestTo (p2 : Int32) (p3 : Int32) (a_p1_blocks : Nat → Int32) (a_lows : Nat → Int32) : Option (Int32 × (Nat → Int32)) :=
  bnd (F_X10_lower p2 a_p1_blocks a_lows) (fun o1 => bnd (F_X7_at 64 p3 o1) (fun o3 => some (o3, o1)))
theorem dX10_lowestTo_0 : decode cX10_lowestTo 0 = .ok (.aload_n 0, 1) := by decide +kernel
theorem dX10_lowestTo_1 : decode cX10_lowestTo 1 = .ok (.aload_n 1, 1) := by decide +kernel
theorem dX10_lowestTo_2 : decode cX10_lowestTo 2 = .ok (.iload_n 2, 1) := by decide +kernel
theorem dX10_lowestTo_3 : decode cX10_lowestTo 3 = .ok (.invokevirtual 41, 3) := by decide +kernel
theorem dX10_lowestTo_6 : decode cX10_lowestTo 6 = .ok (.aload_n 0, 1) := by decide +kernel
theorem dX10_lowestTo_7 : decode cX10_lowestTo 7 = .ok (.getfield 18, 3) := by decide +kernel
theorem dX10_lowestTo_10 : decode cX10_lowestTo 10 = .ok (.iload_n 3, 1) := by decide +kernel
theorem dX10_lowestTo_11 : decode cX10_lowestTo 11 = .ok (.invokestatic 35, 3) := by decide +kernel
theorem dX10_lowestTo_14 : decode cX10_lowestTo 14 = .ok (.ireturn, 1) := by decide +kernel
theorem k_X10_lowestTo : cardV yX10_lowestTo (Cond.code yX10_lowestTo cX10_lowestTo 4 (some .int)) 3 := ⟨⟨qi_X10_lowestTo, qv_X10_lowestTo⟩, qc_X10_lowestTo, qn_X10, by decide +kernel, by decide +kernel, by decide +kernel⟩
set_option maxHeartbeats 4000000 in
set_option maxRecDepth 100000 in
theorem c_X10_lowestTo (l : Launch) (D : va_G) (g : Nat → ClassId) (q_this q_steps q_queue q_lows q_stops q_p1 q_p1_houses q_p1_halls q_p1_posts q_p1_blocks q_p1_kinds : Nat) (p2 p3 : Int32) (f_stopCount : Int32) (f_stepSum : Int32) (a_lows : Nat → Int32) (f_p1_hour : Int32) (f_p1_day : Int32) (f_p1_prankHouse : Int32) (f_p1_bells : Int32) (f_p1_echoes : Int32) (f_p1_bellPranks : Int32) (a_p1_blocks : Nat → Int32) (o : Int32 × (Nat → Int32)) (h : F_X10_lowestTo p2 p3 a_p1_blocks a_lows = some o) : MW l yX10_lowestTo (Cond.code yX10_lowestTo cX10_lowestTo 4 (some .int)) { frames := 5, cells := 0, slots := 0, locals := 117 } D g [.ref q_this, .ref q_p1, .int p2, .int p3] [(q_this, .inr (10, [.ref q_steps, .ref q_queue, .ref q_lows, .ref q_stops, .int f_stopCount, .int f_stepSum])), (q_lows, .inl (g 0, 64, .inl a_lows)), (q_p1, .inr (9, [.ref q_p1_houses, .ref q_p1_halls, .ref q_p1_posts, .ref q_p1_blocks, .ref q_p1_kinds, .int f_p1_hour, .int f_p1_day, .int f_p1_prankHouse, .int f_p1_bells, .int f_p1_echoes, .int f_p1_bellPranks])), (q_p1_blocks, .inl (g 0, 64, .inl a_p1_blocks))] (some (.int o.1)) [(q_this, .inr (10, [.ref q_steps, .ref q_queue, .ref q_lows, .ref q_stops, .int f_stopCount, .int f_stepSum])), (q_lows, .inl (g 0, 64, .inl o.2)), (q_p1, .inr (9, [.ref q_p1_houses, .ref q_p1_halls, .ref q_p1_posts, .ref q_p1_blocks, .ref q_p1_kinds, .int f_p1_hour, .int f_p1_day, .int f_p1_prankHouse, .int f_p1_bells, .int f_p1_echoes, .int f_p1_bellPranks])), (q_p1_blocks, .inl (g 0, 64, .inl a_p1_blocks))] := by
  refine z_wr_start (by decide) (Nat.le_of_ble_eq_true rfl) ?_
  intro p e s m args below meth c Q A X hr hQ hA
  refine z_lv (lv' := [(0, .ref q_this), (1, .ref q_p1), (2, .int p2), (3, .int p3)]) rfl ?_
  refine z_aload_n X 0 dX10_lowestTo_0 rfl rfl ?_
  refine z_aload_n X 1 dX10_lowestTo_1 rfl rfl ?_
  refine z_iload_n X 2 dX10_lowestTo_2 rfl rfl ?_
  obtain ⟨o1, e2, h⟩ := bnd_p h
  refine z_wrV (rest := []) (q0 := 0) (ci := 10) (ws' := [(q_this, .inr (10, [.ref q_steps, .ref q_queue, .ref q_lows, .ref q_stops, .int f_stopCount, .int f_stepSum])), (q_lows, .inl (g 0, 64, .inl o1)), (q_p1, .inr (9, [.ref q_p1_houses, .ref q_p1_halls, .ref q_p1_posts, .ref q_p1_blocks, .ref q_p1_kinds, .int f_p1_hour, .int f_p1_day, .int f_p1_prankHouse, .int f_p1_bells, .int f_p1_echoes, .int f_p1_bellPranks])), (q_p1_blocks, .inl (g 0, 64, .inl a_p1_blocks))]) (wr := []) (as := [q_this, q_lows, q_p1, q_p1_blocks]) X k_X10_lower (c_X10_lower l D g q_this q_steps q_queue q_lows q_stops q_p1 q_p1_houses q_p1_halls q_p1_posts q_p1_blocks q_p1_kinds p2 f_stopCount f_stepSum a_lows f_p1_hour f_p1_day f_p1_prankHouse f_p1_bells f_p1_echoes f_p1_bellPranks a_p1_blocks o1 e2) ql_X10_X10_lower dX10_lowestTo_3 [0, 1, 2, 3] [] ⟨rfl, rfl, rfl, rfl, rfl, rfl, rfl, rfl⟩ rfl rfl rfl rfl rfl ⟨Nat.le_of_ble_eq_true rfl, Nat.le_of_ble_eq_true rfl, rfl, rfl, Nat.le_of_ble_eq_true rfl, Nat.le_of_ble_eq_true rfl⟩ (Nat.le_of_ble_eq_true rfl) ?_
  refine z_aload_n X 0 dX10_lowestTo_6 rfl rfl ?_
  refine z_get (q0 := 0) (k := 2) (ci := 10) X IW_P iw_X10 rfl qf_X10_X10_lows (by decide) dX10_lowestTo_7 rfl rfl ?_
  refine z_iload_n X 3 dX10_lowestTo_10 rfl rfl ?_
  obtain ⟨o3, e4, h⟩ := bnd_p h
  refine z_rdS (rest := []) X IW_P k_X7_at (c_X7_at l D g q_lows 64 p3 o1 o3 e4) ql_X10_X7_at dX10_lowestTo_11 [1] rfl rfl rfl ⟨Nat.le_of_ble_eq_true rfl, Nat.le_of_ble_eq_true rfl, rfl, rfl, Nat.le_of_ble_eq_true rfl, Nat.le_of_ble_eq_true rfl⟩ (Nat.le_of_ble_eq_true rfl) ?_
  cases h
  exact z_iretW X hQ hA hr dX10_lowestTo_14

def L_X10_measure_57 (p2 : Int32) (a_p1_blocks : Nat → Int32) (r30 : Int32 → Int32 → (Nat → Int32) → (Nat → Int32) → Option ((Nat → Int32) × (Nat → Int32))) : Nat → Int32 → Int32 → Int32 → Int32 → (Nat → Int32) → (Nat → Int32) → Option ((Nat → Int32) × (Nat → Int32))
  | 0, _, _, _, _, _, _ => none
  | _n + 1, x3, x4, x5, x6, a_steps, a_queue =>
    brn ((4 : Int32) ≤ x6) (r30 x3 (x4 + 1) a_steps a_queue) (bnd (F_X0_nextTo x5 x6) (fun o9 => brn (o9 = ((-1) : Int32)) (L_X10_measure_57 p2 a_p1_blocks r30 _n x3 x4 x5 (x6 + 1) a_steps a_queue) (bnd (F_X9_isBlocked o9 a_p1_blocks) (fun o11 => brn (o11 = 0) (bnd (F_X7_at 64 o9 a_steps) (fun o13 => brn (o13 = ((-1) : Int32)) (bnd (F_X7_at 64 x5 a_steps) (fun o15 => bnd (F_X7_put 64 o9 (o15 + (1 : Int32)) a_steps) (fun o17 => bnd (F_X7_put 64 x3 o9 a_queue) (fun o19 => L_X10_measure_57 p2 a_p1_blocks r30 _n (x3 + 1) x4 x5 (x6 + 1) o17 o19)))) (L_X10_measure_57 p2 a_p1_blocks r30 _n x3 x4 x5 (x6 + 1) a_steps a_queue))) (L_X10_measure_57 p2 a_p1_blocks r30 _n x3 x4 x5 (x6 + 1) a_steps a_queue)))))

def L_X10_measure_30 (p2 : Int32) (a_p1_blocks : Nat → Int32) : Nat → Int32 → Int32 → (Nat → Int32) → (Nat → Int32) → Option ((Nat → Int32) × (Nat → Int32))
  | 0, _, _, _, _ => none
  | _n + 1, x3, x4, a_steps, a_queue =>
    brn (x3 ≤ x4) (some (a_steps, a_queue)) (brn ((64 : Int32) ≤ x4) (some (a_steps, a_queue)) (bnd (F_X7_at 64 x4 a_queue) (fun o7 => L_X10_measure_57 p2 a_p1_blocks (L_X10_measure_30 p2 a_p1_blocks _n) 100 x3 x4 o7 (0 : Int32) a_steps a_queue)))

def F_X10_measure (p2 : Int32) (a_p1_blocks : Nat → Int32) (a_steps : Nat → Int32) (a_queue : Nat → Int32) : Option ((Nat → Int32) × (Nat → Int32)) :=
  bnd (F_X10_clear 64 a_steps) (fun o1 => bnd (F_X7_put 64 p2 (0 : Int32) o1) (fun o3 => bnd (F_X7_put 64 (0 : Int32) p2 a_queue) (fun o5 => L_X10_measure_30 p2 a_p1_blocks 100 (1 : Int32) (0 : Int32) o3 o5)))
theorem dX10_measure_0 : decode cX10_measure 0 = .ok (.aload_n 0, 1) := by decide +kernel
theorem dX10_measure_1 : decode cX10_measure 1 = .ok (.getfield 9, 3) := by decide +kernel
theorem dX10_measure_4 : decode cX10_measure 4 = .ok (.invokestatic 64, 3) := by decide +kernel
theorem dX10_measure_7 : decode cX10_measure 7 = .ok (.aload_n 0, 1) := by decide +kernel
theorem dX10_measure_8 : decode cX10_measure 8 = .ok (.getfield 9, 3) := by decide +kernel
theorem dX10_measure_11 : decode cX10_measure 11 = .ok (.iload_n 2, 1) := by decide +kernel
theorem dX10_measure_12 : decode cX10_measure 12 = .ok (.iconst 0, 1) := by decide +kernel
theorem dX10_measure_13 : decode cX10_measure 13 = .ok (.invokestatic 68, 3) := by decide +kernel
theorem dX10_measure_16 : decode cX10_measure 16 = .ok (.aload_n 0, 1) := by decide +kernel
theorem dX10_measure_17 : decode cX10_measure 17 = .ok (.getfield 15, 3) := by decide +kernel
theorem dX10_measure_20 : decode cX10_measure 20 = .ok (.iconst 0, 1) := by decide +kernel
theorem dX10_measure_21 : decode cX10_measure 21 = .ok (.iload_n 2, 1) := by decide +kernel
theorem dX10_measure_22 : decode cX10_measure 22 = .ok (.invokestatic 68, 3) := by decide +kernel
theorem dX10_measure_25 : decode cX10_measure 25 = .ok (.iconst 1, 1) := by decide +kernel
theorem dX10_measure_26 : decode cX10_measure 26 = .ok (.istore_n 3, 1) := by decide +kernel
theorem dX10_measure_27 : decode cX10_measure 27 = .ok (.iconst 0, 1) := by decide +kernel
theorem dX10_measure_28 : decode cX10_measure 28 = .ok (.istore 4, 2) := by decide +kernel
theorem dX10_measure_30 : decode cX10_measure 30 = .ok (.iload 4, 2) := by decide +kernel
theorem dX10_measure_32 : decode cX10_measure 32 = .ok (.iload_n 3, 1) := by decide +kernel
theorem dX10_measure_33 : decode cX10_measure 33 = .ok (.if_icmp .ge 112, 3) := by decide +kernel
theorem dX10_measure_36 : decode cX10_measure 36 = .ok (.iload 4, 2) := by decide +kernel
theorem dX10_measure_38 : decode cX10_measure 38 = .ok (.bipush 64, 2) := by decide +kernel
theorem dX10_measure_40 : decode cX10_measure 40 = .ok (.if_icmp .ge 105, 3) := by decide +kernel
theorem dX10_measure_43 : decode cX10_measure 43 = .ok (.aload_n 0, 1) := by decide +kernel
theorem dX10_measure_44 : decode cX10_measure 44 = .ok (.getfield 15, 3) := by decide +kernel
theorem dX10_measure_47 : decode cX10_measure 47 = .ok (.iload 4, 2) := by decide +kernel
theorem dX10_measure_49 : decode cX10_measure 49 = .ok (.invokestatic 35, 3) := by decide +kernel
theorem dX10_measure_52 : decode cX10_measure 52 = .ok (.istore 5, 2) := by decide +kernel
theorem dX10_measure_54 : decode cX10_measure 54 = .ok (.iconst 0, 1) := by decide +kernel
theorem dX10_measure_55 : decode cX10_measure 55 = .ok (.istore 6, 2) := by decide +kernel
theorem dX10_measure_57 : decode cX10_measure 57 = .ok (.iload 6, 2) := by decide +kernel
theorem dX10_measure_59 : decode cX10_measure 59 = .ok (.iconst 4, 1) := by decide +kernel
theorem dX10_measure_60 : decode cX10_measure 60 = .ok (.if_icmp .ge 79, 3) := by decide +kernel
theorem dX10_measure_63 : decode cX10_measure 63 = .ok (.iload 5, 2) := by decide +kernel
theorem dX10_measure_65 : decode cX10_measure 65 = .ok (.iload 6, 2) := by decide +kernel
theorem dX10_measure_67 : decode cX10_measure 67 = .ok (.invokestatic 72, 3) := by decide +kernel
theorem dX10_measure_70 : decode cX10_measure 70 = .ok (.istore 7, 2) := by decide +kernel
theorem dX10_measure_72 : decode cX10_measure 72 = .ok (.iload 7, 2) := by decide +kernel
theorem dX10_measure_74 : decode cX10_measure 74 = .ok (.iconst (-1), 1) := by decide +kernel
theorem dX10_measure_75 : decode cX10_measure 75 = .ok (.if_icmp .eq 58, 3) := by decide +kernel
theorem dX10_measure_78 : decode cX10_measure 78 = .ok (.aload_n 1, 1) := by decide +kernel
theorem dX10_measure_79 : decode cX10_measure 79 = .ok (.iload 7, 2) := by decide +kernel
theorem dX10_measure_81 : decode cX10_measure 81 = .ok (.invokevirtual 78, 3) := by decide +kernel
theorem dX10_measure_84 : decode cX10_measure 84 = .ok (.ifCond .ne 49, 3) := by decide +kernel
theorem dX10_measure_87 : decode cX10_measure 87 = .ok (.aload_n 0, 1) := by decide +kernel
theorem dX10_measure_88 : decode cX10_measure 88 = .ok (.getfield 9, 3) := by decide +kernel
theorem dX10_measure_91 : decode cX10_measure 91 = .ok (.iload 7, 2) := by decide +kernel
theorem dX10_measure_93 : decode cX10_measure 93 = .ok (.invokestatic 35, 3) := by decide +kernel
theorem dX10_measure_96 : decode cX10_measure 96 = .ok (.iconst (-1), 1) := by decide +kernel
theorem dX10_measure_97 : decode cX10_measure 97 = .ok (.if_icmp .ne 36, 3) := by decide +kernel
theorem dX10_measure_100 : decode cX10_measure 100 = .ok (.aload_n 0, 1) := by decide +kernel
theorem dX10_measure_101 : decode cX10_measure 101 = .ok (.getfield 9, 3) := by decide +kernel
theorem dX10_measure_104 : decode cX10_measure 104 = .ok (.iload 7, 2) := by decide +kernel
theorem dX10_measure_106 : decode cX10_measure 106 = .ok (.aload_n 0, 1) := by decide +kernel
theorem dX10_measure_107 : decode cX10_measure 107 = .ok (.getfield 9, 3) := by decide +kernel
theorem dX10_measure_110 : decode cX10_measure 110 = .ok (.iload 5, 2) := by decide +kernel
theorem dX10_measure_112 : decode cX10_measure 112 = .ok (.invokestatic 35, 3) := by decide +kernel
theorem dX10_measure_115 : decode cX10_measure 115 = .ok (.iconst 1, 1) := by decide +kernel
theorem dX10_measure_116 : decode cX10_measure 116 = .ok (.iadd, 1) := by decide +kernel
theorem dX10_measure_117 : decode cX10_measure 117 = .ok (.invokestatic 68, 3) := by decide +kernel
theorem dX10_measure_120 : decode cX10_measure 120 = .ok (.aload_n 0, 1) := by decide +kernel
theorem dX10_measure_121 : decode cX10_measure 121 = .ok (.getfield 15, 3) := by decide +kernel
theorem dX10_measure_124 : decode cX10_measure 124 = .ok (.iload_n 3, 1) := by decide +kernel
theorem dX10_measure_125 : decode cX10_measure 125 = .ok (.iload 7, 2) := by decide +kernel
theorem dX10_measure_127 : decode cX10_measure 127 = .ok (.invokestatic 68, 3) := by decide +kernel
theorem dX10_measure_130 : decode cX10_measure 130 = .ok (.iinc 3 1, 3) := by decide +kernel
theorem dX10_measure_133 : decode cX10_measure 133 = .ok (.iinc 6 1, 3) := by decide +kernel
theorem dX10_measure_136 : decode cX10_measure 136 = .ok (.goto (-79), 3) := by decide +kernel
theorem dX10_measure_139 : decode cX10_measure 139 = .ok (.iinc 4 1, 3) := by decide +kernel
theorem dX10_measure_142 : decode cX10_measure 142 = .ok (.goto (-112), 3) := by decide +kernel
theorem dX10_measure_145 : decode cX10_measure 145 = .ok (.return_, 1) := by decide +kernel
theorem k_X10_measure : cardV yX10_measure (Cond.code yX10_measure cX10_measure 8 none) 2 := ⟨⟨qi_X10_measure, qv_X10_measure⟩, qc_X10_measure, qn_X10, by decide +kernel, by decide +kernel, by decide +kernel⟩
set_option maxHeartbeats 4000000 in
set_option maxRecDepth 100000 in
theorem c_X10_measure (l : Launch) (D : va_G) (g : Nat → ClassId) (q_this q_steps q_queue q_lows q_stops q_p1 q_p1_houses q_p1_halls q_p1_posts q_p1_blocks q_p1_kinds : Nat) (p2 : Int32) (f_stopCount : Int32) (f_stepSum : Int32) (a_steps : Nat → Int32) (a_queue : Nat → Int32) (f_p1_hour : Int32) (f_p1_day : Int32) (f_p1_prankHouse : Int32) (f_p1_bells : Int32) (f_p1_echoes : Int32) (f_p1_bellPranks : Int32) (a_p1_blocks : Nat → Int32) (o : (Nat → Int32) × (Nat → Int32)) (h : F_X10_measure p2 a_p1_blocks a_steps a_queue = some o) : MW l yX10_measure (Cond.code yX10_measure cX10_measure 8 none) { frames := 4, cells := 0, slots := 0, locals := 86 } D g [.ref q_this, .ref q_p1, .int p2] [(q_this, .inr (10, [.ref q_steps, .ref q_queue, .ref q_lows, .ref q_stops, .int f_stopCount, .int f_stepSum])), (q_steps, .inl (g 0, 64, .inl a_steps)), (q_queue, .inl (g 0, 64, .inl a_queue)), (q_p1, .inr (9, [.ref q_p1_houses, .ref q_p1_halls, .ref q_p1_posts, .ref q_p1_blocks, .ref q_p1_kinds, .int f_p1_hour, .int f_p1_day, .int f_p1_prankHouse, .int f_p1_bells, .int f_p1_echoes, .int f_p1_bellPranks])), (q_p1_blocks, .inl (g 0, 64, .inl a_p1_blocks))] none [(q_this, .inr (10, [.ref q_steps, .ref q_queue, .ref q_lows, .ref q_stops, .int f_stopCount, .int f_stepSum])), (q_steps, .inl (g 0, 64, .inl o.1)), (q_queue, .inl (g 0, 64, .inl o.2)), (q_p1, .inr (9, [.ref q_p1_houses, .ref q_p1_halls, .ref q_p1_posts, .ref q_p1_blocks, .ref q_p1_kinds, .int f_p1_hour, .int f_p1_day, .int f_p1_prankHouse, .int f_p1_bells, .int f_p1_echoes, .int f_p1_bellPranks])), (q_p1_blocks, .inl (g 0, 64, .inl a_p1_blocks))] := by
  refine z_wr_start (by decide) (Nat.le_of_ble_eq_true rfl) ?_
  intro p e s m args below meth c Q A X hr hQ hA
  refine z_lv (lv' := [(0, .ref q_this), (1, .ref q_p1), (2, .int p2)]) rfl ?_
  have H30 : ∀ (n : Nat) (x3 : Int32) (x4 : Int32) (a_steps : Nat → Int32) (a_queue : Nat → Int32), L_X10_measure_30 p2 a_p1_blocks  n x3 x4 a_steps a_queue = some o → Z p l e { frames := 4, cells := 0, slots := 0, locals := 86 } s m args below meth c Q 8 0 0 (IW D A s [(q_this, .inr (10, [.ref q_steps, .ref q_queue, .ref q_lows, .ref q_stops, .int f_stopCount, .int f_stepSum])), (q_steps, .inl (g 0, 64, .inl a_steps)), (q_queue, .inl (g 0, 64, .inl a_queue)), (q_p1, .inr (9, [.ref q_p1_houses, .ref q_p1_halls, .ref q_p1_posts, .ref q_p1_blocks, .ref q_p1_kinds, .int f_p1_hour, .int f_p1_day, .int f_p1_prankHouse, .int f_p1_bells, .int f_p1_echoes, .int f_p1_bellPranks])), (q_p1_blocks, .inl (g 0, 64, .inl a_p1_blocks))]) 30 [(0, .ref q_this), (1, .ref q_p1), (3, .int x3), (4, .int x4)] [] := by
    intro n
    induction n with
    | zero => intro x3 x4 a_steps a_queue h; cases h
    | succ n30 ih30 =>
      intro x3 x4 a_steps a_queue h
      have H57 : ∀ (n : Nat) (x3 : Int32) (x4 : Int32) (x5 : Int32) (x6 : Int32) (a_steps : Nat → Int32) (a_queue : Nat → Int32), L_X10_measure_57 p2 a_p1_blocks (L_X10_measure_30 p2 a_p1_blocks n30) n x3 x4 x5 x6 a_steps a_queue = some o → Z p l e { frames := 4, cells := 0, slots := 0, locals := 86 } s m args below meth c Q 8 0 0 (IW D A s [(q_this, .inr (10, [.ref q_steps, .ref q_queue, .ref q_lows, .ref q_stops, .int f_stopCount, .int f_stepSum])), (q_steps, .inl (g 0, 64, .inl a_steps)), (q_queue, .inl (g 0, 64, .inl a_queue)), (q_p1, .inr (9, [.ref q_p1_houses, .ref q_p1_halls, .ref q_p1_posts, .ref q_p1_blocks, .ref q_p1_kinds, .int f_p1_hour, .int f_p1_day, .int f_p1_prankHouse, .int f_p1_bells, .int f_p1_echoes, .int f_p1_bellPranks])), (q_p1_blocks, .inl (g 0, 64, .inl a_p1_blocks))]) 57 [(0, .ref q_this), (1, .ref q_p1), (3, .int x3), (4, .int x4), (5, .int x5), (6, .int x6)] [] := by
        intro n
        induction n with
        | zero => intro x3 x4 x5 x6 a_steps a_queue h; cases h
        | succ n57 ih57 =>
          intro x3 x4 x5 x6 a_steps a_queue h
          refine z_iload X 5 dX10_measure_57 rfl ?_
          refine z_iconst X (4 : Int32) dX10_measure_59 (by decide) ?_
          refine z_icmp_ge X 139 dX10_measure_60 (by decide) h (fun _ h => ?_) (fun _ h => ?_)
          · refine z_iinc X 3 [(4, .int (x4 + 1)), (0, .ref q_this), (1, .ref q_p1), (3, .int x3), (5, .int x5), (6, .int x6)] dX10_measure_139 rfl rfl (by decide) rfl ?_
            refine z_goto X 30 dX10_measure_142 (by decide) ?_
            refine z_sub (lv' := [(0, .ref q_this), (1, .ref q_p1), (3, .int x3), (4, .int (x4 + 1))]) [1, 2, 3, 0] rfl ?_
            exact ih30 x3 (x4 + 1) a_steps a_queue h
          · refine z_iload X 4 dX10_measure_63 rfl ?_
            refine z_iload X 5 dX10_measure_65 rfl ?_
            obtain ⟨o9, e10, h⟩ := bnd_p h
            refine z_rdS (rest := []) X IW_P k_X0_nextTo (c_X0_nextTo l D g x5 x6 o9 e10) ql_X10_X0_nextTo dX10_measure_67 [] rfl rfl rfl ⟨Nat.le_of_ble_eq_true rfl, Nat.le_of_ble_eq_true rfl, rfl, rfl, Nat.le_of_ble_eq_true rfl, Nat.le_of_ble_eq_true rfl⟩ (Nat.le_of_ble_eq_true rfl) ?_
            refine z_istore X [(7, .int o9), (0, .ref q_this), (1, .ref q_p1), (3, .int x3), (4, .int x4), (5, .int x5), (6, .int x6)] dX10_measure_70 (by decide) rfl ?_
            refine z_iload X 0 dX10_measure_72 rfl ?_
            refine z_iconst X ((-1) : Int32) dX10_measure_74 (by decide) ?_
            refine z_icmp_eq X 133 dX10_measure_75 (by decide) h (fun _ h => ?_) (fun _ h => ?_)
            · refine z_iinc X 6 [(6, .int (x6 + 1)), (7, .int o9), (0, .ref q_this), (1, .ref q_p1), (3, .int x3), (4, .int x4), (5, .int x5)] dX10_measure_133 rfl rfl (by decide) rfl ?_
              refine z_goto X 57 dX10_measure_136 (by decide) ?_
              refine z_sub (lv' := [(0, .ref q_this), (1, .ref q_p1), (3, .int x3), (4, .int x4), (5, .int x5), (6, .int (x6 + 1))]) [2, 3, 4, 5, 6, 0] rfl ?_
              exact ih57 x3 x4 x5 (x6 + 1) a_steps a_queue h
            · refine z_aload_n X 2 dX10_measure_78 rfl rfl ?_
              refine z_iload X 0 dX10_measure_79 rfl ?_
              obtain ⟨o11, e12, h⟩ := bnd_p h
              refine z_rdV (rest := []) (q0 := 3) (ci := 9) X IW_P k_X9_isBlocked (c_X9_isBlocked l D g q_p1 q_p1_houses q_p1_halls q_p1_posts q_p1_blocks q_p1_kinds o9 f_p1_hour f_p1_day f_p1_prankHouse f_p1_bells f_p1_echoes f_p1_bellPranks a_p1_blocks o11 e12) ql_X10_X9_isBlocked dX10_measure_81 [3, 4] rfl rfl rfl rfl rfl rfl ⟨Nat.le_of_ble_eq_true rfl, Nat.le_of_ble_eq_true rfl, rfl, rfl, Nat.le_of_ble_eq_true rfl, Nat.le_of_ble_eq_true rfl⟩ (Nat.le_of_ble_eq_true rfl) ?_
              refine z_if_ne X 133 dX10_measure_84 (by decide) h (fun _ h => ?_) (fun _ h => ?_)
              · refine z_aload_n X 1 dX10_measure_87 rfl rfl ?_
                refine z_get (q0 := 0) (k := 0) (ci := 10) X IW_P iw_X10 rfl qf_X10_X10_steps (by decide) dX10_measure_88 rfl rfl ?_
                refine z_iload X 0 dX10_measure_91 rfl ?_
                obtain ⟨o13, e14, h⟩ := bnd_p h
                refine z_rdS (rest := []) X IW_P k_X7_at (c_X7_at l D g q_steps 64 o9 a_steps o13 e14) ql_X10_X7_at dX10_measure_93 [1] rfl rfl rfl ⟨Nat.le_of_ble_eq_true rfl, Nat.le_of_ble_eq_true rfl, rfl, rfl, Nat.le_of_ble_eq_true rfl, Nat.le_of_ble_eq_true rfl⟩ (Nat.le_of_ble_eq_true rfl) ?_
                refine z_iconst X ((-1) : Int32) dX10_measure_96 (by decide) ?_
                refine z_icmp_ne X 133 dX10_measure_97 (by decide) h (fun _ h => ?_) (fun _ h => ?_)
                · refine z_aload_n X 1 dX10_measure_100 rfl rfl ?_
                  refine z_get (q0 := 0) (k := 0) (ci := 10) X IW_P iw_X10 rfl qf_X10_X10_steps (by decide) dX10_measure_101 rfl rfl ?_
                  refine z_iload X 0 dX10_measure_104 rfl ?_
                  refine z_aload_n X 1 dX10_measure_106 rfl rfl ?_
                  refine z_get (q0 := 0) (k := 0) (ci := 10) X IW_P iw_X10 rfl qf_X10_X10_steps (by decide) dX10_measure_107 rfl rfl ?_
                  refine z_iload X 5 dX10_measure_110 rfl ?_
                  obtain ⟨o15, e16, h⟩ := bnd_p h
                  refine z_rdS (rest := [.int o9, .ref q_steps]) X IW_P k_X7_at (c_X7_at l D g q_steps 64 x5 a_steps o15 e16) ql_X10_X7_at dX10_measure_112 [1] rfl rfl rfl ⟨Nat.le_of_ble_eq_true rfl, Nat.le_of_ble_eq_true rfl, rfl, rfl, Nat.le_of_ble_eq_true rfl, Nat.le_of_ble_eq_true rfl⟩ (Nat.le_of_ble_eq_true rfl) ?_
                  refine z_iconst X (1 : Int32) dX10_measure_115 (by decide) ?_
                  refine z_iadd X dX10_measure_116 ?_
                  obtain ⟨o17, e18, h⟩ := bnd_p h
                  refine z_wrS (rest := []) (ws' := [(q_this, .inr (10, [.ref q_steps, .ref q_queue, .ref q_lows, .ref q_stops, .int f_stopCount, .int f_stepSum])), (q_steps, .inl (g 0, 64, .inl o17)), (q_queue, .inl (g 0, 64, .inl a_queue)), (q_p1, .inr (9, [.ref q_p1_houses, .ref q_p1_halls, .ref q_p1_posts, .ref q_p1_blocks, .ref q_p1_kinds, .int f_p1_hour, .int f_p1_day, .int f_p1_prankHouse, .int f_p1_bells, .int f_p1_echoes, .int f_p1_bellPranks])), (q_p1_blocks, .inl (g 0, 64, .inl a_p1_blocks))]) (wr := [(q_this, .inr (10, [.ref q_steps, .ref q_queue, .ref q_lows, .ref q_stops, .int f_stopCount, .int f_stepSum])), (q_queue, .inl (g 0, 64, .inl a_queue)), (q_p1, .inr (9, [.ref q_p1_houses, .ref q_p1_halls, .ref q_p1_posts, .ref q_p1_blocks, .ref q_p1_kinds, .int f_p1_hour, .int f_p1_day, .int f_p1_prankHouse, .int f_p1_bells, .int f_p1_echoes, .int f_p1_bellPranks])), (q_p1_blocks, .inl (g 0, 64, .inl a_p1_blocks))]) (as := [q_this, q_steps, q_queue, q_p1, q_p1_blocks]) X k_X7_put (c_X7_put l D g q_steps 64 o9 (o15 + (1 : Int32)) a_steps o17 e18) ql_X10_X7_put dX10_measure_117 [1] [0, 2, 3, 4] ⟨rfl, rfl, rfl, rfl, rfl, rfl, rfl, rfl⟩ rfl rfl ⟨Nat.le_of_ble_eq_true rfl, Nat.le_of_ble_eq_true rfl, rfl, rfl, Nat.le_of_ble_eq_true rfl, Nat.le_of_ble_eq_true rfl⟩ (Nat.le_of_ble_eq_true rfl) ?_
                  refine z_aload_n X 1 dX10_measure_120 rfl rfl ?_
                  refine z_get (q0 := 0) (k := 1) (ci := 10) X IW_P iw_X10 rfl qf_X10_X10_queue (by decide) dX10_measure_121 rfl rfl ?_
                  refine z_iload_n X 3 dX10_measure_124 rfl rfl ?_
                  refine z_iload X 0 dX10_measure_125 rfl ?_
                  obtain ⟨o19, e20, h⟩ := bnd_p h
                  refine z_wrS (rest := []) (ws' := [(q_this, .inr (10, [.ref q_steps, .ref q_queue, .ref q_lows, .ref q_stops, .int f_stopCount, .int f_stepSum])), (q_steps, .inl (g 0, 64, .inl o17)), (q_queue, .inl (g 0, 64, .inl o19)), (q_p1, .inr (9, [.ref q_p1_houses, .ref q_p1_halls, .ref q_p1_posts, .ref q_p1_blocks, .ref q_p1_kinds, .int f_p1_hour, .int f_p1_day, .int f_p1_prankHouse, .int f_p1_bells, .int f_p1_echoes, .int f_p1_bellPranks])), (q_p1_blocks, .inl (g 0, 64, .inl a_p1_blocks))]) (wr := [(q_this, .inr (10, [.ref q_steps, .ref q_queue, .ref q_lows, .ref q_stops, .int f_stopCount, .int f_stepSum])), (q_steps, .inl (g 0, 64, .inl o17)), (q_p1, .inr (9, [.ref q_p1_houses, .ref q_p1_halls, .ref q_p1_posts, .ref q_p1_blocks, .ref q_p1_kinds, .int f_p1_hour, .int f_p1_day, .int f_p1_prankHouse, .int f_p1_bells, .int f_p1_echoes, .int f_p1_bellPranks])), (q_p1_blocks, .inl (g 0, 64, .inl a_p1_blocks))]) (as := [q_this, q_steps, q_queue, q_p1, q_p1_blocks]) X k_X7_put (c_X7_put l D g q_queue 64 x3 o9 a_queue o19 e20) ql_X10_X7_put dX10_measure_127 [2] [0, 1, 3, 4] ⟨rfl, rfl, rfl, rfl, rfl, rfl, rfl, rfl⟩ rfl rfl ⟨Nat.le_of_ble_eq_true rfl, Nat.le_of_ble_eq_true rfl, rfl, rfl, Nat.le_of_ble_eq_true rfl, Nat.le_of_ble_eq_true rfl⟩ (Nat.le_of_ble_eq_true rfl) ?_
                  refine z_iinc X 3 [(3, .int (x3 + 1)), (7, .int o9), (0, .ref q_this), (1, .ref q_p1), (4, .int x4), (5, .int x5), (6, .int x6)] dX10_measure_130 rfl rfl (by decide) rfl ?_
                  refine z_iinc X 6 [(6, .int (x6 + 1)), (3, .int (x3 + 1)), (7, .int o9), (0, .ref q_this), (1, .ref q_p1), (4, .int x4), (5, .int x5)] dX10_measure_133 rfl rfl (by decide) rfl ?_
                  refine z_goto X 57 dX10_measure_136 (by decide) ?_
                  refine z_sub (lv' := [(0, .ref q_this), (1, .ref q_p1), (3, .int (x3 + 1)), (4, .int x4), (5, .int x5), (6, .int (x6 + 1))]) [3, 4, 1, 5, 6, 0] rfl ?_
                  exact ih57 (x3 + 1) x4 x5 (x6 + 1) o17 o19 h
                · refine z_iinc X 6 [(6, .int (x6 + 1)), (7, .int o9), (0, .ref q_this), (1, .ref q_p1), (3, .int x3), (4, .int x4), (5, .int x5)] dX10_measure_133 rfl rfl (by decide) rfl ?_
                  refine z_goto X 57 dX10_measure_136 (by decide) ?_
                  refine z_sub (lv' := [(0, .ref q_this), (1, .ref q_p1), (3, .int x3), (4, .int x4), (5, .int x5), (6, .int (x6 + 1))]) [2, 3, 4, 5, 6, 0] rfl ?_
                  exact ih57 x3 x4 x5 (x6 + 1) a_steps a_queue h
              · refine z_iinc X 6 [(6, .int (x6 + 1)), (7, .int o9), (0, .ref q_this), (1, .ref q_p1), (3, .int x3), (4, .int x4), (5, .int x5)] dX10_measure_133 rfl rfl (by decide) rfl ?_
                refine z_goto X 57 dX10_measure_136 (by decide) ?_
                refine z_sub (lv' := [(0, .ref q_this), (1, .ref q_p1), (3, .int x3), (4, .int x4), (5, .int x5), (6, .int (x6 + 1))]) [2, 3, 4, 5, 6, 0] rfl ?_
                exact ih57 x3 x4 x5 (x6 + 1) a_steps a_queue h
      refine z_iload X 3 dX10_measure_30 rfl ?_
      refine z_iload_n X 2 dX10_measure_32 rfl rfl ?_
      refine z_icmp_ge X 145 dX10_measure_33 (by decide) h (fun _ h => ?_) (fun _ h => ?_)
      · cases h
        exact z_vretW X hQ hA hr dX10_measure_145
      · refine z_iload X 3 dX10_measure_36 rfl ?_
        refine z_bipush X (64 : Int32) dX10_measure_38 (by decide) ?_
        refine z_icmp_ge X 145 dX10_measure_40 (by decide) h (fun _ h => ?_) (fun _ h => ?_)
        · cases h
          exact z_vretW X hQ hA hr dX10_measure_145
        · refine z_aload_n X 0 dX10_measure_43 rfl rfl ?_
          refine z_get (q0 := 0) (k := 1) (ci := 10) X IW_P iw_X10 rfl qf_X10_X10_queue (by decide) dX10_measure_44 rfl rfl ?_
          refine z_iload X 3 dX10_measure_47 rfl ?_
          obtain ⟨o7, e8, h⟩ := bnd_p h
          refine z_rdS (rest := []) X IW_P k_X7_at (c_X7_at l D g q_queue 64 x4 a_queue o7 e8) ql_X10_X7_at dX10_measure_49 [2] rfl rfl rfl ⟨Nat.le_of_ble_eq_true rfl, Nat.le_of_ble_eq_true rfl, rfl, rfl, Nat.le_of_ble_eq_true rfl, Nat.le_of_ble_eq_true rfl⟩ (Nat.le_of_ble_eq_true rfl) ?_
          refine z_istore X [(5, .int o7), (0, .ref q_this), (1, .ref q_p1), (3, .int x3), (4, .int x4)] dX10_measure_52 (by decide) rfl ?_
          refine z_iconst X (0 : Int32) dX10_measure_54 (by decide) ?_
          refine z_istore X [(6, .int (0 : Int32)), (5, .int o7), (0, .ref q_this), (1, .ref q_p1), (3, .int x3), (4, .int x4)] dX10_measure_55 (by decide) rfl ?_
          refine z_sub (lv' := [(0, .ref q_this), (1, .ref q_p1), (3, .int x3), (4, .int x4), (5, .int o7), (6, .int (0 : Int32))]) [2, 3, 4, 5, 1, 0] rfl ?_
          exact H57 100 x3 x4 o7 (0 : Int32) a_steps a_queue h
  refine z_aload_n X 0 dX10_measure_0 rfl rfl ?_
  refine z_get (q0 := 0) (k := 0) (ci := 10) X IW_P iw_X10 rfl qf_X10_X10_steps (by decide) dX10_measure_1 rfl rfl ?_
  obtain ⟨o1, e2, h⟩ := bnd_p h
  refine z_wrS (rest := []) (ws' := [(q_this, .inr (10, [.ref q_steps, .ref q_queue, .ref q_lows, .ref q_stops, .int f_stopCount, .int f_stepSum])), (q_steps, .inl (g 0, 64, .inl o1)), (q_queue, .inl (g 0, 64, .inl a_queue)), (q_p1, .inr (9, [.ref q_p1_houses, .ref q_p1_halls, .ref q_p1_posts, .ref q_p1_blocks, .ref q_p1_kinds, .int f_p1_hour, .int f_p1_day, .int f_p1_prankHouse, .int f_p1_bells, .int f_p1_echoes, .int f_p1_bellPranks])), (q_p1_blocks, .inl (g 0, 64, .inl a_p1_blocks))]) (wr := [(q_this, .inr (10, [.ref q_steps, .ref q_queue, .ref q_lows, .ref q_stops, .int f_stopCount, .int f_stepSum])), (q_queue, .inl (g 0, 64, .inl a_queue)), (q_p1, .inr (9, [.ref q_p1_houses, .ref q_p1_halls, .ref q_p1_posts, .ref q_p1_blocks, .ref q_p1_kinds, .int f_p1_hour, .int f_p1_day, .int f_p1_prankHouse, .int f_p1_bells, .int f_p1_echoes, .int f_p1_bellPranks])), (q_p1_blocks, .inl (g 0, 64, .inl a_p1_blocks))]) (as := [q_this, q_steps, q_queue, q_p1, q_p1_blocks]) X k_X10_clear (c_X10_clear l D g q_steps 64 a_steps o1 e2) ql_X10_X10_clear dX10_measure_4 [1] [0, 2, 3, 4] ⟨rfl, rfl, rfl, rfl, rfl, rfl, rfl, rfl⟩ rfl rfl ⟨Nat.le_of_ble_eq_true rfl, Nat.le_of_ble_eq_true rfl, rfl, rfl, Nat.le_of_ble_eq_true rfl, Nat.le_of_ble_eq_true rfl⟩ (Nat.le_of_ble_eq_true rfl) ?_
  refine z_aload_n X 0 dX10_measure_7 rfl rfl ?_
  refine z_get (q0 := 0) (k := 0) (ci := 10) X IW_P iw_X10 rfl qf_X10_X10_steps (by decide) dX10_measure_8 rfl rfl ?_
  refine z_iload_n X 2 dX10_measure_11 rfl rfl ?_
  refine z_iconst X (0 : Int32) dX10_measure_12 (by decide) ?_
  obtain ⟨o3, e4, h⟩ := bnd_p h
  refine z_wrS (rest := []) (ws' := [(q_this, .inr (10, [.ref q_steps, .ref q_queue, .ref q_lows, .ref q_stops, .int f_stopCount, .int f_stepSum])), (q_steps, .inl (g 0, 64, .inl o3)), (q_queue, .inl (g 0, 64, .inl a_queue)), (q_p1, .inr (9, [.ref q_p1_houses, .ref q_p1_halls, .ref q_p1_posts, .ref q_p1_blocks, .ref q_p1_kinds, .int f_p1_hour, .int f_p1_day, .int f_p1_prankHouse, .int f_p1_bells, .int f_p1_echoes, .int f_p1_bellPranks])), (q_p1_blocks, .inl (g 0, 64, .inl a_p1_blocks))]) (wr := [(q_this, .inr (10, [.ref q_steps, .ref q_queue, .ref q_lows, .ref q_stops, .int f_stopCount, .int f_stepSum])), (q_queue, .inl (g 0, 64, .inl a_queue)), (q_p1, .inr (9, [.ref q_p1_houses, .ref q_p1_halls, .ref q_p1_posts, .ref q_p1_blocks, .ref q_p1_kinds, .int f_p1_hour, .int f_p1_day, .int f_p1_prankHouse, .int f_p1_bells, .int f_p1_echoes, .int f_p1_bellPranks])), (q_p1_blocks, .inl (g 0, 64, .inl a_p1_blocks))]) (as := [q_this, q_steps, q_queue, q_p1, q_p1_blocks]) X k_X7_put (c_X7_put l D g q_steps 64 p2 (0 : Int32) o1 o3 e4) ql_X10_X7_put dX10_measure_13 [1] [0, 2, 3, 4] ⟨rfl, rfl, rfl, rfl, rfl, rfl, rfl, rfl⟩ rfl rfl ⟨Nat.le_of_ble_eq_true rfl, Nat.le_of_ble_eq_true rfl, rfl, rfl, Nat.le_of_ble_eq_true rfl, Nat.le_of_ble_eq_true rfl⟩ (Nat.le_of_ble_eq_true rfl) ?_
  refine z_aload_n X 0 dX10_measure_16 rfl rfl ?_
  refine z_get (q0 := 0) (k := 1) (ci := 10) X IW_P iw_X10 rfl qf_X10_X10_queue (by decide) dX10_measure_17 rfl rfl ?_
  refine z_iconst X (0 : Int32) dX10_measure_20 (by decide) ?_
  refine z_iload_n X 2 dX10_measure_21 rfl rfl ?_
  obtain ⟨o5, e6, h⟩ := bnd_p h
  refine z_wrS (rest := []) (ws' := [(q_this, .inr (10, [.ref q_steps, .ref q_queue, .ref q_lows, .ref q_stops, .int f_stopCount, .int f_stepSum])), (q_steps, .inl (g 0, 64, .inl o3)), (q_queue, .inl (g 0, 64, .inl o5)), (q_p1, .inr (9, [.ref q_p1_houses, .ref q_p1_halls, .ref q_p1_posts, .ref q_p1_blocks, .ref q_p1_kinds, .int f_p1_hour, .int f_p1_day, .int f_p1_prankHouse, .int f_p1_bells, .int f_p1_echoes, .int f_p1_bellPranks])), (q_p1_blocks, .inl (g 0, 64, .inl a_p1_blocks))]) (wr := [(q_this, .inr (10, [.ref q_steps, .ref q_queue, .ref q_lows, .ref q_stops, .int f_stopCount, .int f_stepSum])), (q_steps, .inl (g 0, 64, .inl o3)), (q_p1, .inr (9, [.ref q_p1_houses, .ref q_p1_halls, .ref q_p1_posts, .ref q_p1_blocks, .ref q_p1_kinds, .int f_p1_hour, .int f_p1_day, .int f_p1_prankHouse, .int f_p1_bells, .int f_p1_echoes, .int f_p1_bellPranks])), (q_p1_blocks, .inl (g 0, 64, .inl a_p1_blocks))]) (as := [q_this, q_steps, q_queue, q_p1, q_p1_blocks]) X k_X7_put (c_X7_put l D g q_queue 64 (0 : Int32) p2 a_queue o5 e6) ql_X10_X7_put dX10_measure_22 [2] [0, 1, 3, 4] ⟨rfl, rfl, rfl, rfl, rfl, rfl, rfl, rfl⟩ rfl rfl ⟨Nat.le_of_ble_eq_true rfl, Nat.le_of_ble_eq_true rfl, rfl, rfl, Nat.le_of_ble_eq_true rfl, Nat.le_of_ble_eq_true rfl⟩ (Nat.le_of_ble_eq_true rfl) ?_
  refine z_iconst X (1 : Int32) dX10_measure_25 (by decide) ?_
  refine z_istore_n X [(3, .int (1 : Int32)), (0, .ref q_this), (1, .ref q_p1), (2, .int p2)] dX10_measure_26 rfl (by decide) rfl ?_
  refine z_iconst X (0 : Int32) dX10_measure_27 (by decide) ?_
  refine z_istore X [(4, .int (0 : Int32)), (3, .int (1 : Int32)), (0, .ref q_this), (1, .ref q_p1), (2, .int p2)] dX10_measure_28 (by decide) rfl ?_
  refine z_sub (lv' := [(0, .ref q_this), (1, .ref q_p1), (3, .int (1 : Int32)), (4, .int (0 : Int32))]) [2, 3, 1, 0] rfl ?_
  exact H30 100 (1 : Int32) (0 : Int32) o3 o5 h

def F_X10_stepsTo (p2 : Int32) (p3 : Int32) (a_p1_blocks : Nat → Int32) (a_steps : Nat → Int32) (a_queue : Nat → Int32) : Option (Int32 × (Nat → Int32) × (Nat → Int32)) :=
  bnd (F_X10_measure p2 a_p1_blocks a_steps a_queue) (fun o1 => bnd (F_X7_at 64 p3 o1.1) (fun o3 => some (o3, o1.1, o1.2)))
theorem dX10_stepsTo_0 : decode cX10_stepsTo 0 = .ok (.aload_n 0, 1) := by decide +kernel
theorem dX10_stepsTo_1 : decode cX10_stepsTo 1 = .ok (.aload_n 1, 1) := by decide +kernel
theorem dX10_stepsTo_2 : decode cX10_stepsTo 2 = .ok (.iload_n 2, 1) := by decide +kernel
theorem dX10_stepsTo_3 : decode cX10_stepsTo 3 = .ok (.invokevirtual 31, 3) := by decide +kernel
theorem dX10_stepsTo_6 : decode cX10_stepsTo 6 = .ok (.aload_n 0, 1) := by decide +kernel
theorem dX10_stepsTo_7 : decode cX10_stepsTo 7 = .ok (.getfield 9, 3) := by decide +kernel
theorem dX10_stepsTo_10 : decode cX10_stepsTo 10 = .ok (.iload_n 3, 1) := by decide +kernel
theorem dX10_stepsTo_11 : decode cX10_stepsTo 11 = .ok (.invokestatic 35, 3) := by decide +kernel
theorem dX10_stepsTo_14 : decode cX10_stepsTo 14 = .ok (.ireturn, 1) := by decide +kernel
theorem k_X10_stepsTo : cardV yX10_stepsTo (Cond.code yX10_stepsTo cX10_stepsTo 4 (some .int)) 3 := ⟨⟨qi_X10_stepsTo, qv_X10_stepsTo⟩, qc_X10_stepsTo, qn_X10, by decide +kernel, by decide +kernel, by decide +kernel⟩
set_option maxHeartbeats 4000000 in
set_option maxRecDepth 100000 in
theorem c_X10_stepsTo (l : Launch) (D : va_G) (g : Nat → ClassId) (q_this q_steps q_queue q_lows q_stops q_p1 q_p1_houses q_p1_halls q_p1_posts q_p1_blocks q_p1_kinds : Nat) (p2 p3 : Int32) (f_stopCount : Int32) (f_stepSum : Int32) (a_steps : Nat → Int32) (a_queue : Nat → Int32) (f_p1_hour : Int32) (f_p1_day : Int32) (f_p1_prankHouse : Int32) (f_p1_bells : Int32) (f_p1_echoes : Int32) (f_p1_bellPranks : Int32) (a_p1_blocks : Nat → Int32) (o : Int32 × (Nat → Int32) × (Nat → Int32)) (h : F_X10_stepsTo p2 p3 a_p1_blocks a_steps a_queue = some o) : MW l yX10_stepsTo (Cond.code yX10_stepsTo cX10_stepsTo 4 (some .int)) { frames := 5, cells := 0, slots := 0, locals := 113 } D g [.ref q_this, .ref q_p1, .int p2, .int p3] [(q_this, .inr (10, [.ref q_steps, .ref q_queue, .ref q_lows, .ref q_stops, .int f_stopCount, .int f_stepSum])), (q_steps, .inl (g 0, 64, .inl a_steps)), (q_queue, .inl (g 0, 64, .inl a_queue)), (q_p1, .inr (9, [.ref q_p1_houses, .ref q_p1_halls, .ref q_p1_posts, .ref q_p1_blocks, .ref q_p1_kinds, .int f_p1_hour, .int f_p1_day, .int f_p1_prankHouse, .int f_p1_bells, .int f_p1_echoes, .int f_p1_bellPranks])), (q_p1_blocks, .inl (g 0, 64, .inl a_p1_blocks))] (some (.int o.1)) [(q_this, .inr (10, [.ref q_steps, .ref q_queue, .ref q_lows, .ref q_stops, .int f_stopCount, .int f_stepSum])), (q_steps, .inl (g 0, 64, .inl o.2.1)), (q_queue, .inl (g 0, 64, .inl o.2.2)), (q_p1, .inr (9, [.ref q_p1_houses, .ref q_p1_halls, .ref q_p1_posts, .ref q_p1_blocks, .ref q_p1_kinds, .int f_p1_hour, .int f_p1_day, .int f_p1_prankHouse, .int f_p1_bells, .int f_p1_echoes, .int f_p1_bellPranks])), (q_p1_blocks, .inl (g 0, 64, .inl a_p1_blocks))] := by
  refine z_wr_start (by decide) (Nat.le_of_ble_eq_true rfl) ?_
  intro p e s m args below meth c Q A X hr hQ hA
  refine z_lv (lv' := [(0, .ref q_this), (1, .ref q_p1), (2, .int p2), (3, .int p3)]) rfl ?_
  refine z_aload_n X 0 dX10_stepsTo_0 rfl rfl ?_
  refine z_aload_n X 1 dX10_stepsTo_1 rfl rfl ?_
  refine z_iload_n X 2 dX10_stepsTo_2 rfl rfl ?_
  obtain ⟨o1, e2, h⟩ := bnd_p h
  refine z_wrV (rest := []) (q0 := 0) (ci := 10) (ws' := [(q_this, .inr (10, [.ref q_steps, .ref q_queue, .ref q_lows, .ref q_stops, .int f_stopCount, .int f_stepSum])), (q_steps, .inl (g 0, 64, .inl o1.1)), (q_queue, .inl (g 0, 64, .inl o1.2)), (q_p1, .inr (9, [.ref q_p1_houses, .ref q_p1_halls, .ref q_p1_posts, .ref q_p1_blocks, .ref q_p1_kinds, .int f_p1_hour, .int f_p1_day, .int f_p1_prankHouse, .int f_p1_bells, .int f_p1_echoes, .int f_p1_bellPranks])), (q_p1_blocks, .inl (g 0, 64, .inl a_p1_blocks))]) (wr := []) (as := [q_this, q_steps, q_queue, q_p1, q_p1_blocks]) X k_X10_measure (c_X10_measure l D g q_this q_steps q_queue q_lows q_stops q_p1 q_p1_houses q_p1_halls q_p1_posts q_p1_blocks q_p1_kinds p2 f_stopCount f_stepSum a_steps a_queue f_p1_hour f_p1_day f_p1_prankHouse f_p1_bells f_p1_echoes f_p1_bellPranks a_p1_blocks o1 e2) ql_X10_X10_measure dX10_stepsTo_3 [0, 1, 2, 3, 4] [] ⟨rfl, rfl, rfl, rfl, rfl, rfl, rfl, rfl⟩ rfl rfl rfl rfl rfl ⟨Nat.le_of_ble_eq_true rfl, Nat.le_of_ble_eq_true rfl, rfl, rfl, Nat.le_of_ble_eq_true rfl, Nat.le_of_ble_eq_true rfl⟩ (Nat.le_of_ble_eq_true rfl) ?_
  refine z_aload_n X 0 dX10_stepsTo_6 rfl rfl ?_
  refine z_get (q0 := 0) (k := 0) (ci := 10) X IW_P iw_X10 rfl qf_X10_X10_steps (by decide) dX10_stepsTo_7 rfl rfl ?_
  refine z_iload_n X 3 dX10_stepsTo_10 rfl rfl ?_
  obtain ⟨o3, e4, h⟩ := bnd_p h
  refine z_rdS (rest := []) X IW_P k_X7_at (c_X7_at l D g q_steps 64 p3 o1.1 o3 e4) ql_X10_X7_at dX10_stepsTo_11 [1] rfl rfl rfl ⟨Nat.le_of_ble_eq_true rfl, Nat.le_of_ble_eq_true rfl, rfl, rfl, Nat.le_of_ble_eq_true rfl, Nat.le_of_ble_eq_true rfl⟩ (Nat.le_of_ble_eq_true rfl) ?_
  cases h
  exact z_iretW X hQ hA hr dX10_stepsTo_14

def J_X10_nearest_77 (f_stopCount : Int32) (a_steps : Nat → Int32) (a_stops : Nat → Int32) (f_p1_size : Int32) (a_p1_cells : Nat → Int32) (r7 : Int32 → Int32 → Int32 → Option (Int32)) (x4 : Int32) (x5 : Int32) : Option (Int32) :=
  r7 x4 x5 (x4 + 1)

def J_X10_nearest_53 (f_stopCount : Int32) (a_steps : Nat → Int32) (a_stops : Nat → Int32) (f_p1_size : Int32) (a_p1_cells : Nat → Int32) (r7 : Int32 → Int32 → Int32 → Option (Int32)) (t0 : Int32) (x2 : Int32) (x3 : Int32) (x4 : Int32) (x5 : Int32) : Option (Int32) :=
  brn (t0 = 0) (r7 x2 x3 (x4 + 1)) (brn (x5 = ((-1) : Int32)) (r7 x2 x3 (x4 + 1)) (brn (x3 = ((-1) : Int32)) (J_X10_nearest_77 f_stopCount a_steps a_stops f_p1_size a_p1_cells (r7) x4 x5) (brn (x3 ≤ x5) (r7 x2 x3 (x4 + 1)) (J_X10_nearest_77 f_stopCount a_steps a_stops f_p1_size a_p1_cells (r7) x4 x5))))

def L_X10_nearest_7 (f_stopCount : Int32) (a_steps : Nat → Int32) (a_stops : Nat → Int32) (f_p1_size : Int32) (a_p1_cells : Nat → Int32) : Nat → Int32 → Int32 → Int32 → Option (Int32)
  | 0, _, _, _ => none
  | _n + 1, x2, x3, x4 =>
    bnd (F_X2_size f_p1_size) (fun o1 => brn (o1 ≤ x4) (some (x2)) (bnd (F_X2_cellAt x4 a_p1_cells) (fun o3 => bnd (F_X7_at 64 o3 a_steps) (fun o5 => bnd (F_X7_placeOf 10 f_stopCount x4 a_stops) (fun o7 => brn (o7 = ((-1) : Int32)) (J_X10_nearest_53 f_stopCount a_steps a_stops f_p1_size a_p1_cells (L_X10_nearest_7 f_stopCount a_steps a_stops f_p1_size a_p1_cells _n) (1 : Int32) x2 x3 x4 o5) (J_X10_nearest_53 f_stopCount a_steps a_stops f_p1_size a_p1_cells (L_X10_nearest_7 f_stopCount a_steps a_stops f_p1_size a_p1_cells _n) (0 : Int32) x2 x3 x4 o5))))))

def F_X10_nearest (f_stopCount : Int32) (a_steps : Nat → Int32) (a_stops : Nat → Int32) (f_p1_size : Int32) (a_p1_cells : Nat → Int32) : Option (Int32) :=
  L_X10_nearest_7 f_stopCount a_steps a_stops f_p1_size a_p1_cells 100 ((-1) : Int32) ((-1) : Int32) (0 : Int32)
theorem dX10_nearest_0 : decode cX10_nearest 0 = .ok (.iconst (-1), 1) := by decide +kernel
theorem dX10_nearest_1 : decode cX10_nearest 1 = .ok (.istore_n 2, 1) := by decide +kernel
theorem dX10_nearest_2 : decode cX10_nearest 2 = .ok (.iconst (-1), 1) := by decide +kernel
theorem dX10_nearest_3 : decode cX10_nearest 3 = .ok (.istore_n 3, 1) := by decide +kernel
theorem dX10_nearest_4 : decode cX10_nearest 4 = .ok (.iconst 0, 1) := by decide +kernel
theorem dX10_nearest_5 : decode cX10_nearest 5 = .ok (.istore 4, 2) := by decide +kernel
theorem dX10_nearest_7 : decode cX10_nearest 7 = .ok (.iload 4, 2) := by decide +kernel
theorem dX10_nearest_9 : decode cX10_nearest 9 = .ok (.aload_n 1, 1) := by decide +kernel
theorem dX10_nearest_10 : decode cX10_nearest 10 = .ok (.invokevirtual 60, 3) := by decide +kernel
theorem dX10_nearest_13 : decode cX10_nearest 13 = .ok (.if_icmp .ge 76, 3) := by decide +kernel
theorem dX10_nearest_16 : decode cX10_nearest 16 = .ok (.aload_n 0, 1) := by decide +kernel
theorem dX10_nearest_17 : decode cX10_nearest 17 = .ok (.getfield 9, 3) := by decide +kernel
theorem dX10_nearest_20 : decode cX10_nearest 20 = .ok (.aload_n 1, 1) := by decide +kernel
theorem dX10_nearest_21 : decode cX10_nearest 21 = .ok (.iload 4, 2) := by decide +kernel
theorem dX10_nearest_23 : decode cX10_nearest 23 = .ok (.invokevirtual 56, 3) := by decide +kernel
theorem dX10_nearest_26 : decode cX10_nearest 26 = .ok (.invokestatic 35, 3) := by decide +kernel
theorem dX10_nearest_29 : decode cX10_nearest 29 = .ok (.istore 5, 2) := by decide +kernel
theorem dX10_nearest_31 : decode cX10_nearest 31 = .ok (.aload_n 0, 1) := by decide +kernel
theorem dX10_nearest_32 : decode cX10_nearest 32 = .ok (.getfield 21, 3) := by decide +kernel
theorem dX10_nearest_35 : decode cX10_nearest 35 = .ok (.aload_n 0, 1) := by decide +kernel
theorem dX10_nearest_36 : decode cX10_nearest 36 = .ok (.getfield 24, 3) := by decide +kernel
theorem dX10_nearest_39 : decode cX10_nearest 39 = .ok (.iload 4, 2) := by decide +kernel
theorem dX10_nearest_41 : decode cX10_nearest 41 = .ok (.invokestatic 92, 3) := by decide +kernel
theorem dX10_nearest_44 : decode cX10_nearest 44 = .ok (.iconst (-1), 1) := by decide +kernel
theorem dX10_nearest_45 : decode cX10_nearest 45 = .ok (.if_icmp .ne 7, 3) := by decide +kernel
theorem dX10_nearest_48 : decode cX10_nearest 48 = .ok (.iconst 1, 1) := by decide +kernel
theorem dX10_nearest_49 : decode cX10_nearest 49 = .ok (.goto 4, 3) := by decide +kernel
theorem dX10_nearest_52 : decode cX10_nearest 52 = .ok (.iconst 0, 1) := by decide +kernel
theorem dX10_nearest_53 : decode cX10_nearest 53 = .ok (.istore 6, 2) := by decide +kernel
theorem dX10_nearest_55 : decode cX10_nearest 55 = .ok (.iload 6, 2) := by decide +kernel
theorem dX10_nearest_57 : decode cX10_nearest 57 = .ok (.ifCond .eq 26, 3) := by decide +kernel
theorem dX10_nearest_60 : decode cX10_nearest 60 = .ok (.iload 5, 2) := by decide +kernel
theorem dX10_nearest_62 : decode cX10_nearest 62 = .ok (.iconst (-1), 1) := by decide +kernel
theorem dX10_nearest_63 : decode cX10_nearest 63 = .ok (.if_icmp .eq 20, 3) := by decide +kernel
theorem dX10_nearest_66 : decode cX10_nearest 66 = .ok (.iload_n 3, 1) := by decide +kernel
theorem dX10_nearest_67 : decode cX10_nearest 67 = .ok (.iconst (-1), 1) := by decide +kernel
theorem dX10_nearest_68 : decode cX10_nearest 68 = .ok (.if_icmp .eq 9, 3) := by decide +kernel
theorem dX10_nearest_71 : decode cX10_nearest 71 = .ok (.iload 5, 2) := by decide +kernel
theorem dX10_nearest_73 : decode cX10_nearest 73 = .ok (.iload_n 3, 1) := by decide +kernel
theorem dX10_nearest_74 : decode cX10_nearest 74 = .ok (.if_icmp .ge 9, 3) := by decide +kernel
theorem dX10_nearest_77 : decode cX10_nearest 77 = .ok (.iload 4, 2) := by decide +kernel
theorem dX10_nearest_79 : decode cX10_nearest 79 = .ok (.istore_n 2, 1) := by decide +kernel
theorem dX10_nearest_80 : decode cX10_nearest 80 = .ok (.iload 5, 2) := by decide +kernel
theorem dX10_nearest_82 : decode cX10_nearest 82 = .ok (.istore_n 3, 1) := by decide +kernel
theorem dX10_nearest_83 : decode cX10_nearest 83 = .ok (.iinc 4 1, 3) := by decide +kernel
theorem dX10_nearest_86 : decode cX10_nearest 86 = .ok (.goto (-79), 3) := by decide +kernel
theorem dX10_nearest_89 : decode cX10_nearest 89 = .ok (.iload_n 2, 1) := by decide +kernel
theorem dX10_nearest_90 : decode cX10_nearest 90 = .ok (.ireturn, 1) := by decide +kernel
theorem k_X10_nearest : cardV yX10_nearest (Cond.code yX10_nearest cX10_nearest 7 (some .int)) 1 := ⟨⟨qi_X10_nearest, qv_X10_nearest⟩, qc_X10_nearest, qn_X10, by decide +kernel, by decide +kernel, by decide +kernel⟩
set_option maxHeartbeats 4000000 in
set_option maxRecDepth 100000 in
theorem c_X10_nearest (l : Launch) (D : va_G) (g : Nat → ClassId) (q_this q_steps q_queue q_lows q_stops q_p1 q_p1_cells q_p1_froms q_p1_tos q_p1_rings q_p1_pranks : Nat) (f_stopCount : Int32) (f_stepSum : Int32) (a_steps : Nat → Int32) (a_stops : Nat → Int32) (f_p1_size : Int32) (a_p1_cells : Nat → Int32) (o : Int32) (h : F_X10_nearest f_stopCount a_steps a_stops f_p1_size a_p1_cells = some o) : MR l yX10_nearest (Cond.code yX10_nearest cX10_nearest 7 (some .int)) { frames := 2, cells := 0, slots := 0, locals := 42 } D g [.ref q_this, .ref q_p1] [(q_this, .inr (10, [.ref q_steps, .ref q_queue, .ref q_lows, .ref q_stops, .int f_stopCount, .int f_stepSum])), (q_steps, .inl (g 0, 64, .inl a_steps)), (q_stops, .inl (g 0, 10, .inl a_stops)), (q_p1, .inr (3, [.int f_p1_size, .ref q_p1_cells, .ref q_p1_froms, .ref q_p1_tos, .ref q_p1_rings, .ref q_p1_pranks])), (q_p1_cells, .inl (g 0, 10, .inl a_p1_cells))] (some (.int o)) := by
  refine z_rd_start (by decide) (Nat.le_of_ble_eq_true rfl) ?_
  intro p e s m args below meth c Q X hr hQ
  refine z_lv (lv' := [(0, .ref q_this), (1, .ref q_p1)]) rfl ?_
  have H7 : ∀ (n : Nat) (x2 : Int32) (x3 : Int32) (x4 : Int32), L_X10_nearest_7 f_stopCount a_steps a_stops f_p1_size a_p1_cells  n x2 x3 x4 = some o → Z p l e { frames := 2, cells := 0, slots := 0, locals := 42 } s m args below meth c Q 7 0 0 (IR D [(q_this, .inr (10, [.ref q_steps, .ref q_queue, .ref q_lows, .ref q_stops, .int f_stopCount, .int f_stepSum])), (q_steps, .inl (g 0, 64, .inl a_steps)), (q_stops, .inl (g 0, 10, .inl a_stops)), (q_p1, .inr (3, [.int f_p1_size, .ref q_p1_cells, .ref q_p1_froms, .ref q_p1_tos, .ref q_p1_rings, .ref q_p1_pranks])), (q_p1_cells, .inl (g 0, 10, .inl a_p1_cells))] s) 7 [(0, .ref q_this), (1, .ref q_p1), (2, .int x2), (3, .int x3), (4, .int x4)] [] := by
    intro n
    induction n with
    | zero => intro x2 x3 x4 h; cases h
    | succ n7 ih7 =>
      intro x2 x3 x4 h
      have H77 : ∀ (x4 : Int32) (x5 : Int32), J_X10_nearest_77 f_stopCount a_steps a_stops f_p1_size a_p1_cells (L_X10_nearest_7 f_stopCount a_steps a_stops f_p1_size a_p1_cells n7) x4 x5 = some o → Z p l e { frames := 2, cells := 0, slots := 0, locals := 42 } s m args below meth c Q 7 0 0 (IR D [(q_this, .inr (10, [.ref q_steps, .ref q_queue, .ref q_lows, .ref q_stops, .int f_stopCount, .int f_stepSum])), (q_steps, .inl (g 0, 64, .inl a_steps)), (q_stops, .inl (g 0, 10, .inl a_stops)), (q_p1, .inr (3, [.int f_p1_size, .ref q_p1_cells, .ref q_p1_froms, .ref q_p1_tos, .ref q_p1_rings, .ref q_p1_pranks])), (q_p1_cells, .inl (g 0, 10, .inl a_p1_cells))] s) 77 [(0, .ref q_this), (1, .ref q_p1), (4, .int x4), (5, .int x5)] [] := by
        intro x4 x5 h
        refine z_iload X 2 dX10_nearest_77 rfl ?_
        refine z_istore_n X [(2, .int x4), (0, .ref q_this), (1, .ref q_p1), (4, .int x4), (5, .int x5)] dX10_nearest_79 rfl (by decide) rfl ?_
        refine z_iload X 4 dX10_nearest_80 rfl ?_
        refine z_istore_n X [(3, .int x5), (2, .int x4), (0, .ref q_this), (1, .ref q_p1), (4, .int x4), (5, .int x5)] dX10_nearest_82 rfl (by decide) rfl ?_
        refine z_iinc X 4 [(4, .int (x4 + 1)), (3, .int x5), (2, .int x4), (0, .ref q_this), (1, .ref q_p1), (5, .int x5)] dX10_nearest_83 rfl rfl (by decide) rfl ?_
        refine z_goto X 7 dX10_nearest_86 (by decide) ?_
        refine z_sub (lv' := [(0, .ref q_this), (1, .ref q_p1), (2, .int x4), (3, .int x5), (4, .int (x4 + 1))]) [3, 4, 2, 1, 0] rfl ?_
        exact ih7 x4 x5 (x4 + 1) h
      have H53 : ∀ (t0 : Int32) (x2 : Int32) (x3 : Int32) (x4 : Int32) (x5 : Int32), J_X10_nearest_53 f_stopCount a_steps a_stops f_p1_size a_p1_cells (L_X10_nearest_7 f_stopCount a_steps a_stops f_p1_size a_p1_cells n7) t0 x2 x3 x4 x5 = some o → Z p l e { frames := 2, cells := 0, slots := 0, locals := 42 } s m args below meth c Q 7 0 0 (IR D [(q_this, .inr (10, [.ref q_steps, .ref q_queue, .ref q_lows, .ref q_stops, .int f_stopCount, .int f_stepSum])), (q_steps, .inl (g 0, 64, .inl a_steps)), (q_stops, .inl (g 0, 10, .inl a_stops)), (q_p1, .inr (3, [.int f_p1_size, .ref q_p1_cells, .ref q_p1_froms, .ref q_p1_tos, .ref q_p1_rings, .ref q_p1_pranks])), (q_p1_cells, .inl (g 0, 10, .inl a_p1_cells))] s) 53 [(0, .ref q_this), (1, .ref q_p1), (2, .int x2), (3, .int x3), (4, .int x4), (5, .int x5)] [.int t0] := by
        intro t0 x2 x3 x4 x5 h
        refine z_istore X [(6, .int t0), (0, .ref q_this), (1, .ref q_p1), (2, .int x2), (3, .int x3), (4, .int x4), (5, .int x5)] dX10_nearest_53 (by decide) rfl ?_
        refine z_iload X 0 dX10_nearest_55 rfl ?_
        refine z_if_eq X 83 dX10_nearest_57 (by decide) h (fun _ h => ?_) (fun _ h => ?_)
        · refine z_iinc X 5 [(4, .int (x4 + 1)), (6, .int t0), (0, .ref q_this), (1, .ref q_p1), (2, .int x2), (3, .int x3), (5, .int x5)] dX10_nearest_83 rfl rfl (by decide) rfl ?_
          refine z_goto X 7 dX10_nearest_86 (by decide) ?_
          refine z_sub (lv' := [(0, .ref q_this), (1, .ref q_p1), (2, .int x2), (3, .int x3), (4, .int (x4 + 1))]) [2, 3, 4, 5, 0] rfl ?_
          exact ih7 x2 x3 (x4 + 1) h
        · refine z_iload X 6 dX10_nearest_60 rfl ?_
          refine z_iconst X ((-1) : Int32) dX10_nearest_62 (by decide) ?_
          refine z_icmp_eq X 83 dX10_nearest_63 (by decide) h (fun _ h => ?_) (fun _ h => ?_)
          · refine z_iinc X 5 [(4, .int (x4 + 1)), (6, .int t0), (0, .ref q_this), (1, .ref q_p1), (2, .int x2), (3, .int x3), (5, .int x5)] dX10_nearest_83 rfl rfl (by decide) rfl ?_
            refine z_goto X 7 dX10_nearest_86 (by decide) ?_
            refine z_sub (lv' := [(0, .ref q_this), (1, .ref q_p1), (2, .int x2), (3, .int x3), (4, .int (x4 + 1))]) [2, 3, 4, 5, 0] rfl ?_
            exact ih7 x2 x3 (x4 + 1) h
          · refine z_iload_n X 4 dX10_nearest_66 rfl rfl ?_
            refine z_iconst X ((-1) : Int32) dX10_nearest_67 (by decide) ?_
            refine z_icmp_eq X 77 dX10_nearest_68 (by decide) h (fun _ h => ?_) (fun _ h => ?_)
            · refine z_sub (lv' := [(0, .ref q_this), (1, .ref q_p1), (4, .int x4), (5, .int x5)]) [1, 2, 5, 6] rfl ?_
              exact H77 x4 x5 h
            · refine z_iload X 6 dX10_nearest_71 rfl ?_
              refine z_iload_n X 4 dX10_nearest_73 rfl rfl ?_
              refine z_icmp_ge X 83 dX10_nearest_74 (by decide) h (fun _ h => ?_) (fun _ h => ?_)
              · refine z_iinc X 5 [(4, .int (x4 + 1)), (6, .int t0), (0, .ref q_this), (1, .ref q_p1), (2, .int x2), (3, .int x3), (5, .int x5)] dX10_nearest_83 rfl rfl (by decide) rfl ?_
                refine z_goto X 7 dX10_nearest_86 (by decide) ?_
                refine z_sub (lv' := [(0, .ref q_this), (1, .ref q_p1), (2, .int x2), (3, .int x3), (4, .int (x4 + 1))]) [2, 3, 4, 5, 0] rfl ?_
                exact ih7 x2 x3 (x4 + 1) h
              · refine z_sub (lv' := [(0, .ref q_this), (1, .ref q_p1), (4, .int x4), (5, .int x5)]) [1, 2, 5, 6] rfl ?_
                exact H77 x4 x5 h
      refine z_iload X 4 dX10_nearest_7 rfl ?_
      refine z_aload_n X 1 dX10_nearest_9 rfl rfl ?_
      obtain ⟨o1, e2, h⟩ := bnd_p h
      refine z_rdV (rest := [.int x4]) (q0 := 3) (ci := 3) X IR_P k_X2_size (c_X2_size l D g q_p1 q_p1_cells q_p1_froms q_p1_tos q_p1_rings q_p1_pranks f_p1_size o1 e2) ql_X10_X2_size dX10_nearest_10 [3] rfl rfl rfl rfl rfl rfl ⟨Nat.le_of_ble_eq_true rfl, Nat.le_of_ble_eq_true rfl, rfl, rfl, Nat.le_of_ble_eq_true rfl, Nat.le_of_ble_eq_true rfl⟩ (Nat.le_of_ble_eq_true rfl) ?_
      refine z_icmp_ge X 89 dX10_nearest_13 (by decide) h (fun _ h => ?_) (fun _ h => ?_)
      · refine z_iload_n X 2 dX10_nearest_89 rfl rfl ?_
        exact z_iretR X hQ hr dX10_nearest_90 h
      · refine z_aload_n X 0 dX10_nearest_16 rfl rfl ?_
        refine z_get (q0 := 0) (k := 0) (ci := 10) X IR_P iw_X10 rfl qf_X10_X10_steps (by decide) dX10_nearest_17 rfl rfl ?_
        refine z_aload_n X 1 dX10_nearest_20 rfl rfl ?_
        refine z_iload X 4 dX10_nearest_21 rfl ?_
        obtain ⟨o3, e4, h⟩ := bnd_p h
        refine z_rdV (rest := [.ref q_steps]) (q0 := 3) (ci := 3) X IR_P k_X2_cellAt (c_X2_cellAt l D g q_p1 q_p1_cells q_p1_froms q_p1_tos q_p1_rings q_p1_pranks x4 f_p1_size a_p1_cells o3 e4) ql_X10_X2_cellAt dX10_nearest_23 [3, 4] rfl rfl rfl rfl rfl rfl ⟨Nat.le_of_ble_eq_true rfl, Nat.le_of_ble_eq_true rfl, rfl, rfl, Nat.le_of_ble_eq_true rfl, Nat.le_of_ble_eq_true rfl⟩ (Nat.le_of_ble_eq_true rfl) ?_
        obtain ⟨o5, e6, h⟩ := bnd_p h
        refine z_rdS (rest := []) X IR_P k_X7_at (c_X7_at l D g q_steps 64 o3 a_steps o5 e6) ql_X10_X7_at dX10_nearest_26 [1] rfl rfl rfl ⟨Nat.le_of_ble_eq_true rfl, Nat.le_of_ble_eq_true rfl, rfl, rfl, Nat.le_of_ble_eq_true rfl, Nat.le_of_ble_eq_true rfl⟩ (Nat.le_of_ble_eq_true rfl) ?_
        refine z_istore X [(5, .int o5), (0, .ref q_this), (1, .ref q_p1), (2, .int x2), (3, .int x3), (4, .int x4)] dX10_nearest_29 (by decide) rfl ?_
        refine z_aload_n X 1 dX10_nearest_31 rfl rfl ?_
        refine z_get (q0 := 0) (k := 3) (ci := 10) X IR_P iw_X10 rfl qf_X10_X10_stops (by decide) dX10_nearest_32 rfl rfl ?_
        refine z_aload_n X 1 dX10_nearest_35 rfl rfl ?_
        refine z_get (q0 := 0) (k := 4) (ci := 10) X IR_P iw_X10 rfl qf_X10_X10_stopCount (by decide) dX10_nearest_36 rfl rfl ?_
        refine z_iload X 5 dX10_nearest_39 rfl ?_
        obtain ⟨o7, e8, h⟩ := bnd_p h
        refine z_rdS (rest := []) X IR_P k_X7_placeOf (c_X7_placeOf l D g q_stops 10 f_stopCount x4 a_stops o7 e8) ql_X10_X7_placeOf dX10_nearest_41 [2] rfl rfl rfl ⟨Nat.le_of_ble_eq_true rfl, Nat.le_of_ble_eq_true rfl, rfl, rfl, Nat.le_of_ble_eq_true rfl, Nat.le_of_ble_eq_true rfl⟩ (Nat.le_of_ble_eq_true rfl) ?_
        refine z_iconst X ((-1) : Int32) dX10_nearest_44 (by decide) ?_
        refine z_icmp_ne X 52 dX10_nearest_45 (by decide) h (fun _ h => ?_) (fun _ h => ?_)
        · refine z_iconst X (1 : Int32) dX10_nearest_48 (by decide) ?_
          refine z_goto X 53 dX10_nearest_49 (by decide) ?_
          refine z_sub (lv' := [(0, .ref q_this), (1, .ref q_p1), (2, .int x2), (3, .int x3), (4, .int x4), (5, .int o5)]) [1, 2, 3, 4, 5, 0] rfl ?_
          exact H53 (1 : Int32) x2 x3 x4 o5 h
        · refine z_iconst X (0 : Int32) dX10_nearest_52 (by decide) ?_
          refine z_sub (lv' := [(0, .ref q_this), (1, .ref q_p1), (2, .int x2), (3, .int x3), (4, .int x4), (5, .int o5)]) [1, 2, 3, 4, 5, 0] rfl ?_
          exact H53 (0 : Int32) x2 x3 x4 o5 h
  refine z_iconst X ((-1) : Int32) dX10_nearest_0 (by decide) ?_
  refine z_istore_n X [(2, .int ((-1) : Int32)), (0, .ref q_this), (1, .ref q_p1)] dX10_nearest_1 rfl (by decide) rfl ?_
  refine z_iconst X ((-1) : Int32) dX10_nearest_2 (by decide) ?_
  refine z_istore_n X [(3, .int ((-1) : Int32)), (2, .int ((-1) : Int32)), (0, .ref q_this), (1, .ref q_p1)] dX10_nearest_3 rfl (by decide) rfl ?_
  refine z_iconst X (0 : Int32) dX10_nearest_4 (by decide) ?_
  refine z_istore X [(4, .int (0 : Int32)), (3, .int ((-1) : Int32)), (2, .int ((-1) : Int32)), (0, .ref q_this), (1, .ref q_p1)] dX10_nearest_5 (by decide) rfl ?_
  refine z_sub (lv' := [(0, .ref q_this), (1, .ref q_p1), (2, .int ((-1) : Int32)), (3, .int ((-1) : Int32)), (4, .int (0 : Int32))]) [3, 4, 2, 1, 0] rfl ?_
  exact H7 100 ((-1) : Int32) ((-1) : Int32) (0 : Int32) h

def J_X10_goRound_110 (f_p1_houses_size : Int32) (a_p1_houses_cells : Nat → Int32) (a_p1_blocks : Nat → Int32) (r29 : Int32 → Int32 → (Int32) → (Int32) → (Nat → Int32) → (Nat → Int32) → (Nat → Int32) → Option (Int32 × Int32 × (Nat → Int32) × (Nat → Int32) × (Nat → Int32))) (t0 : Int32) (t1 : Int32) (x2 : Int32) (x3 : Int32) (f_stopCount : Int32) (f_stepSum : Int32) (a_steps : Nat → Int32) (a_queue : Nat → Int32) (a_stops : Nat → Int32) : Option (Int32 × Int32 × (Nat → Int32) × (Nat → Int32) × (Nat → Int32)) :=
  r29 x2 (x3 + 1) f_stopCount (t1 + t0) a_steps a_queue a_stops

def L_X10_goRound_29 (f_p1_houses_size : Int32) (a_p1_houses_cells : Nat → Int32) (a_p1_blocks : Nat → Int32) : Nat → Int32 → Int32 → (Int32) → (Int32) → (Nat → Int32) → (Nat → Int32) → (Nat → Int32) → Option (Int32 × Int32 × (Nat → Int32) × (Nat → Int32) × (Nat → Int32))
  | 0, _, _, _, _, _, _, _ => none
  | _n + 1, x2, x3, f_stopCount, f_stepSum, a_steps, a_queue, a_stops =>
    brn ((10 : Int32) ≤ x3) (some (f_stopCount, f_stepSum, a_steps, a_queue, a_stops)) (brn (x2 = ((-1) : Int32)) (some (f_stopCount, f_stepSum, a_steps, a_queue, a_stops)) (bnd (F_X7_put 10 x3 x2 a_stops) (fun o3 => bnd (F_X2_cellAt x2 a_p1_houses_cells) (fun o5 => bnd (F_X10_measure o5 a_p1_blocks a_steps a_queue) (fun o7 => bnd (F_X10_nearest (f_stopCount + (1 : Int32)) o7.1 o3 f_p1_houses_size a_p1_houses_cells) (fun o9 => brn (o9 = ((-1) : Int32)) (J_X10_goRound_110 f_p1_houses_size a_p1_houses_cells a_p1_blocks (L_X10_goRound_29 f_p1_houses_size a_p1_houses_cells a_p1_blocks _n) (0 : Int32) f_stepSum o9 x3 (f_stopCount + (1 : Int32)) f_stepSum o7.1 o7.2 o3) (bnd (F_X2_cellAt o9 a_p1_houses_cells) (fun o11 => bnd (F_X7_at 64 o11 o7.1) (fun o13 => J_X10_goRound_110 f_p1_houses_size a_p1_houses_cells a_p1_blocks (L_X10_goRound_29 f_p1_houses_size a_p1_houses_cells a_p1_blocks _n) o13 f_stepSum o9 x3 (f_stopCount + (1 : Int32)) f_stepSum o7.1 o7.2 o3)))))))))

def J_X10_goRound_26 (f_p1_houses_size : Int32) (a_p1_houses_cells : Nat → Int32) (a_p1_blocks : Nat → Int32) (t0 : Int32) (f_stopCount : Int32) (f_stepSum : Int32) (a_steps : Nat → Int32) (a_queue : Nat → Int32) (a_stops : Nat → Int32) : Option (Int32 × Int32 × (Nat → Int32) × (Nat → Int32) × (Nat → Int32)) :=
  L_X10_goRound_29 f_p1_houses_size a_p1_houses_cells a_p1_blocks 100 t0 (0 : Int32) f_stopCount f_stepSum a_steps a_queue a_stops

def F_X10_goRound (f_p1_houses_size : Int32) (a_p1_houses_cells : Nat → Int32) (a_p1_blocks : Nat → Int32) (f_stopCount : Int32) (f_stepSum : Int32) (a_steps : Nat → Int32) (a_queue : Nat → Int32) (a_stops : Nat → Int32) : Option (Int32 × Int32 × (Nat → Int32) × (Nat → Int32) × (Nat → Int32)) :=
  bnd (F_X2_has (0 : Int32) f_p1_houses_size) (fun o1 => brn (o1 = 0) (J_X10_goRound_26 f_p1_houses_size a_p1_houses_cells a_p1_blocks ((-1) : Int32) (0 : Int32) (0 : Int32) a_steps a_queue a_stops) (J_X10_goRound_26 f_p1_houses_size a_p1_houses_cells a_p1_blocks (0 : Int32) (0 : Int32) (0 : Int32) a_steps a_queue a_stops))
theorem dX10_goRound_0 : decode cX10_goRound 0 = .ok (.aload_n 0, 1) := by decide +kernel
theorem dX10_goRound_1 : decode cX10_goRound 1 = .ok (.iconst 0, 1) := by decide +kernel
theorem dX10_goRound_2 : decode cX10_goRound 2 = .ok (.putfield 24, 3) := by decide +kernel
theorem dX10_goRound_5 : decode cX10_goRound 5 = .ok (.aload_n 0, 1) := by decide +kernel
theorem dX10_goRound_6 : decode cX10_goRound 6 = .ok (.iconst 0, 1) := by decide +kernel
theorem dX10_goRound_7 : decode cX10_goRound 7 = .ok (.putfield 28, 3) := by decide +kernel
theorem dX10_goRound_10 : decode cX10_goRound 10 = .ok (.aload_n 1, 1) := by decide +kernel
theorem dX10_goRound_11 : decode cX10_goRound 11 = .ok (.getfield 44, 3) := by decide +kernel
theorem dX10_goRound_14 : decode cX10_goRound 14 = .ok (.iconst 0, 1) := by decide +kernel
theorem dX10_goRound_15 : decode cX10_goRound 15 = .ok (.invokevirtual 50, 3) := by decide +kernel
theorem dX10_goRound_18 : decode cX10_goRound 18 = .ok (.ifCond .eq 7, 3) := by decide +kernel
theorem dX10_goRound_21 : decode cX10_goRound 21 = .ok (.iconst 0, 1) := by decide +kernel
theorem dX10_goRound_22 : decode cX10_goRound 22 = .ok (.goto 4, 3) := by decide +kernel
theorem dX10_goRound_25 : decode cX10_goRound 25 = .ok (.iconst (-1), 1) := by decide +kernel
theorem dX10_goRound_26 : decode cX10_goRound 26 = .ok (.istore_n 2, 1) := by decide +kernel
theorem dX10_goRound_27 : decode cX10_goRound 27 = .ok (.iconst 0, 1) := by decide +kernel
theorem dX10_goRound_28 : decode cX10_goRound 28 = .ok (.istore_n 3, 1) := by decide +kernel
theorem dX10_goRound_29 : decode cX10_goRound 29 = .ok (.iload_n 3, 1) := by decide +kernel
theorem dX10_goRound_30 : decode cX10_goRound 30 = .ok (.bipush 10, 2) := by decide +kernel
theorem dX10_goRound_32 : decode cX10_goRound 32 = .ok (.if_icmp .ge 88, 3) := by decide +kernel
theorem dX10_goRound_35 : decode cX10_goRound 35 = .ok (.iload_n 2, 1) := by decide +kernel
theorem dX10_goRound_36 : decode cX10_goRound 36 = .ok (.iconst (-1), 1) := by decide +kernel
theorem dX10_goRound_37 : decode cX10_goRound 37 = .ok (.if_icmp .eq 83, 3) := by decide +kernel
theorem dX10_goRound_40 : decode cX10_goRound 40 = .ok (.aload_n 0, 1) := by decide +kernel
theorem dX10_goRound_41 : decode cX10_goRound 41 = .ok (.getfield 21, 3) := by decide +kernel
theorem dX10_goRound_44 : decode cX10_goRound 44 = .ok (.iload_n 3, 1) := by decide +kernel
theorem dX10_goRound_45 : decode cX10_goRound 45 = .ok (.iload_n 2, 1) := by decide +kernel
theorem dX10_goRound_46 : decode cX10_goRound 46 = .ok (.invokestatic 68, 3) := by decide +kernel
theorem dX10_goRound_49 : decode cX10_goRound 49 = .ok (.aload_n 0, 1) := by decide +kernel
theorem dX10_goRound_50 : decode cX10_goRound 50 = .ok (.dup, 1) := by decide +kernel
theorem dX10_goRound_51 : decode cX10_goRound 51 = .ok (.getfield 24, 3) := by decide +kernel
theorem dX10_goRound_54 : decode cX10_goRound 54 = .ok (.iconst 1, 1) := by decide +kernel
theorem dX10_goRound_55 : decode cX10_goRound 55 = .ok (.iadd, 1) := by decide +kernel
theorem dX10_goRound_56 : decode cX10_goRound 56 = .ok (.putfield 24, 3) := by decide +kernel
theorem dX10_goRound_59 : decode cX10_goRound 59 = .ok (.aload_n 0, 1) := by decide +kernel
theorem dX10_goRound_60 : decode cX10_goRound 60 = .ok (.aload_n 1, 1) := by decide +kernel
theorem dX10_goRound_61 : decode cX10_goRound 61 = .ok (.aload_n 1, 1) := by decide +kernel
theorem dX10_goRound_62 : decode cX10_goRound 62 = .ok (.getfield 44, 3) := by decide +kernel
theorem dX10_goRound_65 : decode cX10_goRound 65 = .ok (.iload_n 2, 1) := by decide +kernel
theorem dX10_goRound_66 : decode cX10_goRound 66 = .ok (.invokevirtual 56, 3) := by decide +kernel
theorem dX10_goRound_69 : decode cX10_goRound 69 = .ok (.invokevirtual 31, 3) := by decide +kernel
theorem dX10_goRound_72 : decode cX10_goRound 72 = .ok (.aload_n 0, 1) := by decide +kernel
theorem dX10_goRound_73 : decode cX10_goRound 73 = .ok (.aload_n 1, 1) := by decide +kernel
theorem dX10_goRound_74 : decode cX10_goRound 74 = .ok (.getfield 44, 3) := by decide +kernel
theorem dX10_goRound_77 : decode cX10_goRound 77 = .ok (.invokevirtual 88, 3) := by decide +kernel
theorem dX10_goRound_80 : decode cX10_goRound 80 = .ok (.istore_n 2, 1) := by decide +kernel
theorem dX10_goRound_81 : decode cX10_goRound 81 = .ok (.aload_n 0, 1) := by decide +kernel
theorem dX10_goRound_82 : decode cX10_goRound 82 = .ok (.dup, 1) := by decide +kernel
theorem dX10_goRound_83 : decode cX10_goRound 83 = .ok (.getfield 28, 3) := by decide +kernel
theorem dX10_goRound_86 : decode cX10_goRound 86 = .ok (.iload_n 2, 1) := by decide +kernel
theorem dX10_goRound_87 : decode cX10_goRound 87 = .ok (.iconst (-1), 1) := by decide +kernel
theorem dX10_goRound_88 : decode cX10_goRound 88 = .ok (.if_icmp .ne 7, 3) := by decide +kernel
theorem dX10_goRound_91 : decode cX10_goRound 91 = .ok (.iconst 0, 1) := by decide +kernel
theorem dX10_goRound_92 : decode cX10_goRound 92 = .ok (.goto 18, 3) := by decide +kernel
theorem dX10_goRound_95 : decode cX10_goRound 95 = .ok (.aload_n 0, 1) := by decide +kernel
theorem dX10_goRound_96 : decode cX10_goRound 96 = .ok (.getfield 9, 3) := by decide +kernel
theorem dX10_goRound_99 : decode cX10_goRound 99 = .ok (.aload_n 1, 1) := by decide +kernel
theorem dX10_goRound_100 : decode cX10_goRound 100 = .ok (.getfield 44, 3) := by decide +kernel
theorem dX10_goRound_103 : decode cX10_goRound 103 = .ok (.iload_n 2, 1) := by decide +kernel
theorem dX10_goRound_104 : decode cX10_goRound 104 = .ok (.invokevirtual 56, 3) := by decide +kernel
theorem dX10_goRound_107 : decode cX10_goRound 107 = .ok (.invokestatic 35, 3) := by decide +kernel
theorem dX10_goRound_110 : decode cX10_goRound 110 = .ok (.iadd, 1) := by decide +kernel
theorem dX10_goRound_111 : decode cX10_goRound 111 = .ok (.putfield 28, 3) := by decide +kernel
theorem dX10_goRound_114 : decode cX10_goRound 114 = .ok (.iinc 3 1, 3) := by decide +kernel
theorem dX10_goRound_117 : decode cX10_goRound 117 = .ok (.goto (-88), 3) := by decide +kernel
theorem dX10_goRound_120 : decode cX10_goRound 120 = .ok (.return_, 1) := by decide +kernel
theorem k_X10_goRound : cardV yX10_goRound (Cond.code yX10_goRound cX10_goRound 4 none) 1 := ⟨⟨qi_X10_goRound, qv_X10_goRound⟩, qc_X10_goRound, qn_X10, by decide +kernel, by decide +kernel, by decide +kernel⟩
set_option maxHeartbeats 4000000 in
set_option maxRecDepth 100000 in
theorem c_X10_goRound (l : Launch) (D : va_G) (g : Nat → ClassId) (q_this q_steps q_queue q_lows q_stops q_p1 q_p1_houses q_p1_halls q_p1_posts q_p1_blocks q_p1_kinds q_p1_houses_cells q_p1_houses_froms q_p1_houses_tos q_p1_houses_rings q_p1_houses_pranks : Nat) (f_stopCount : Int32) (f_stepSum : Int32) (a_steps : Nat → Int32) (a_queue : Nat → Int32) (a_stops : Nat → Int32) (f_p1_hour : Int32) (f_p1_day : Int32) (f_p1_prankHouse : Int32) (f_p1_bells : Int32) (f_p1_echoes : Int32) (f_p1_bellPranks : Int32) (f_p1_houses_size : Int32) (a_p1_houses_cells : Nat → Int32) (a_p1_blocks : Nat → Int32) (o : Int32 × Int32 × (Nat → Int32) × (Nat → Int32) × (Nat → Int32)) (h : F_X10_goRound f_p1_houses_size a_p1_houses_cells a_p1_blocks f_stopCount f_stepSum a_steps a_queue a_stops = some o) : MW l yX10_goRound (Cond.code yX10_goRound cX10_goRound 4 none) { frames := 5, cells := 0, slots := 0, locals := 113 } D g [.ref q_this, .ref q_p1] [(q_this, .inr (10, [.ref q_steps, .ref q_queue, .ref q_lows, .ref q_stops, .int f_stopCount, .int f_stepSum])), (q_steps, .inl (g 0, 64, .inl a_steps)), (q_queue, .inl (g 0, 64, .inl a_queue)), (q_stops, .inl (g 0, 10, .inl a_stops)), (q_p1, .inr (9, [.ref q_p1_houses, .ref q_p1_halls, .ref q_p1_posts, .ref q_p1_blocks, .ref q_p1_kinds, .int f_p1_hour, .int f_p1_day, .int f_p1_prankHouse, .int f_p1_bells, .int f_p1_echoes, .int f_p1_bellPranks])), (q_p1_houses, .inr (3, [.int f_p1_houses_size, .ref q_p1_houses_cells, .ref q_p1_houses_froms, .ref q_p1_houses_tos, .ref q_p1_houses_rings, .ref q_p1_houses_pranks])), (q_p1_houses_cells, .inl (g 0, 10, .inl a_p1_houses_cells)), (q_p1_blocks, .inl (g 0, 64, .inl a_p1_blocks))] none [(q_this, .inr (10, [.ref q_steps, .ref q_queue, .ref q_lows, .ref q_stops, .int o.1, .int o.2.1])), (q_steps, .inl (g 0, 64, .inl o.2.2.1)), (q_queue, .inl (g 0, 64, .inl o.2.2.2.1)), (q_stops, .inl (g 0, 10, .inl o.2.2.2.2)), (q_p1, .inr (9, [.ref q_p1_houses, .ref q_p1_halls, .ref q_p1_posts, .ref q_p1_blocks, .ref q_p1_kinds, .int f_p1_hour, .int f_p1_day, .int f_p1_prankHouse, .int f_p1_bells, .int f_p1_echoes, .int f_p1_bellPranks])), (q_p1_houses, .inr (3, [.int f_p1_houses_size, .ref q_p1_houses_cells, .ref q_p1_houses_froms, .ref q_p1_houses_tos, .ref q_p1_houses_rings, .ref q_p1_houses_pranks])), (q_p1_houses_cells, .inl (g 0, 10, .inl a_p1_houses_cells)), (q_p1_blocks, .inl (g 0, 64, .inl a_p1_blocks))] := by
  refine z_wr_start (by decide) (Nat.le_of_ble_eq_true rfl) ?_
  intro p e s m args below meth c Q A X hr hQ hA
  refine z_lv (lv' := [(0, .ref q_this), (1, .ref q_p1)]) rfl ?_
  have H29 : ∀ (n : Nat) (x2 : Int32) (x3 : Int32) (f_stopCount : Int32) (f_stepSum : Int32) (a_steps : Nat → Int32) (a_queue : Nat → Int32) (a_stops : Nat → Int32), L_X10_goRound_29 f_p1_houses_size a_p1_houses_cells a_p1_blocks  n x2 x3 f_stopCount f_stepSum a_steps a_queue a_stops = some o → Z p l e { frames := 5, cells := 0, slots := 0, locals := 113 } s m args below meth c Q 4 0 0 (IW D A s [(q_this, .inr (10, [.ref q_steps, .ref q_queue, .ref q_lows, .ref q_stops, .int f_stopCount, .int f_stepSum])), (q_steps, .inl (g 0, 64, .inl a_steps)), (q_queue, .inl (g 0, 64, .inl a_queue)), (q_stops, .inl (g 0, 10, .inl a_stops)), (q_p1, .inr (9, [.ref q_p1_houses, .ref q_p1_halls, .ref q_p1_posts, .ref q_p1_blocks, .ref q_p1_kinds, .int f_p1_hour, .int f_p1_day, .int f_p1_prankHouse, .int f_p1_bells, .int f_p1_echoes, .int f_p1_bellPranks])), (q_p1_houses, .inr (3, [.int f_p1_houses_size, .ref q_p1_houses_cells, .ref q_p1_houses_froms, .ref q_p1_houses_tos, .ref q_p1_houses_rings, .ref q_p1_houses_pranks])), (q_p1_houses_cells, .inl (g 0, 10, .inl a_p1_houses_cells)), (q_p1_blocks, .inl (g 0, 64, .inl a_p1_blocks))]) 29 [(0, .ref q_this), (1, .ref q_p1), (2, .int x2), (3, .int x3)] [] := by
    intro n
    induction n with
    | zero => intro x2 x3 f_stopCount f_stepSum a_steps a_queue a_stops h; cases h
    | succ n29 ih29 =>
      intro x2 x3 f_stopCount f_stepSum a_steps a_queue a_stops h
      have H110 : ∀ (t0 : Int32) (t1 : Int32) (x2 : Int32) (x3 : Int32) (f_stopCount : Int32) (f_stepSum : Int32) (a_steps : Nat → Int32) (a_queue : Nat → Int32) (a_stops : Nat → Int32), J_X10_goRound_110 f_p1_houses_size a_p1_houses_cells a_p1_blocks (L_X10_goRound_29 f_p1_houses_size a_p1_houses_cells a_p1_blocks n29) t0 t1 x2 x3 f_stopCount f_stepSum a_steps a_queue a_stops = some o → Z p l e { frames := 5, cells := 0, slots := 0, locals := 113 } s m args below meth c Q 4 0 0 (IW D A s [(q_this, .inr (10, [.ref q_steps, .ref q_queue, .ref q_lows, .ref q_stops, .int f_stopCount, .int f_stepSum])), (q_steps, .inl (g 0, 64, .inl a_steps)), (q_queue, .inl (g 0, 64, .inl a_queue)), (q_stops, .inl (g 0, 10, .inl a_stops)), (q_p1, .inr (9, [.ref q_p1_houses, .ref q_p1_halls, .ref q_p1_posts, .ref q_p1_blocks, .ref q_p1_kinds, .int f_p1_hour, .int f_p1_day, .int f_p1_prankHouse, .int f_p1_bells, .int f_p1_echoes, .int f_p1_bellPranks])), (q_p1_houses, .inr (3, [.int f_p1_houses_size, .ref q_p1_houses_cells, .ref q_p1_houses_froms, .ref q_p1_houses_tos, .ref q_p1_houses_rings, .ref q_p1_houses_pranks])), (q_p1_houses_cells, .inl (g 0, 10, .inl a_p1_houses_cells)), (q_p1_blocks, .inl (g 0, 64, .inl a_p1_blocks))]) 110 [(0, .ref q_this), (1, .ref q_p1), (2, .int x2), (3, .int x3)] [.int t0, .int t1, .ref q_this] := by
        intro t0 t1 x2 x3 f_stopCount f_stepSum a_steps a_queue a_stops h
        refine z_iadd X dX10_goRound_110 ?_
        refine z_put (q0 := 0) (k := 5) (ci := 10) (ws' := [(q_this, .inr (10, [.ref q_steps, .ref q_queue, .ref q_lows, .ref q_stops, .int f_stopCount, .int (t1 + t0)])), (q_steps, .inl (g 0, 64, .inl a_steps)), (q_queue, .inl (g 0, 64, .inl a_queue)), (q_stops, .inl (g 0, 10, .inl a_stops)), (q_p1, .inr (9, [.ref q_p1_houses, .ref q_p1_halls, .ref q_p1_posts, .ref q_p1_blocks, .ref q_p1_kinds, .int f_p1_hour, .int f_p1_day, .int f_p1_prankHouse, .int f_p1_bells, .int f_p1_echoes, .int f_p1_bellPranks])), (q_p1_houses, .inr (3, [.int f_p1_houses_size, .ref q_p1_houses_cells, .ref q_p1_houses_froms, .ref q_p1_houses_tos, .ref q_p1_houses_rings, .ref q_p1_houses_pranks])), (q_p1_houses_cells, .inl (g 0, 10, .inl a_p1_houses_cells)), (q_p1_blocks, .inl (g 0, 64, .inl a_p1_blocks))]) X iw_X10 tyX10_ok nmX10 rfl qf_X10_X10_stepSum (by decide) rfl rfl dX10_goRound_111 rfl rfl rfl (Nat.le_of_ble_eq_true rfl) rfl ?_
        refine z_iinc X 3 [(3, .int (x3 + 1)), (0, .ref q_this), (1, .ref q_p1), (2, .int x2)] dX10_goRound_114 rfl rfl (by decide) rfl ?_
        refine z_goto X 29 dX10_goRound_117 (by decide) ?_
        refine z_sub (lv' := [(0, .ref q_this), (1, .ref q_p1), (2, .int x2), (3, .int (x3 + 1))]) [1, 2, 3, 0] rfl ?_
        exact ih29 x2 (x3 + 1) f_stopCount (t1 + t0) a_steps a_queue a_stops h
      refine z_iload_n X 3 dX10_goRound_29 rfl rfl ?_
      refine z_bipush X (10 : Int32) dX10_goRound_30 (by decide) ?_
      refine z_icmp_ge X 120 dX10_goRound_32 (by decide) h (fun _ h => ?_) (fun _ h => ?_)
      · cases h
        exact z_vretW X hQ hA hr dX10_goRound_120
      · refine z_iload_n X 2 dX10_goRound_35 rfl rfl ?_
        refine z_iconst X ((-1) : Int32) dX10_goRound_36 (by decide) ?_
        refine z_icmp_eq X 120 dX10_goRound_37 (by decide) h (fun _ h => ?_) (fun _ h => ?_)
        · cases h
          exact z_vretW X hQ hA hr dX10_goRound_120
        · refine z_aload_n X 0 dX10_goRound_40 rfl rfl ?_
          refine z_get (q0 := 0) (k := 3) (ci := 10) X IW_P iw_X10 rfl qf_X10_X10_stops (by decide) dX10_goRound_41 rfl rfl ?_
          refine z_iload_n X 3 dX10_goRound_44 rfl rfl ?_
          refine z_iload_n X 2 dX10_goRound_45 rfl rfl ?_
          obtain ⟨o3, e4, h⟩ := bnd_p h
          refine z_wrS (rest := []) (ws' := [(q_this, .inr (10, [.ref q_steps, .ref q_queue, .ref q_lows, .ref q_stops, .int f_stopCount, .int f_stepSum])), (q_steps, .inl (g 0, 64, .inl a_steps)), (q_queue, .inl (g 0, 64, .inl a_queue)), (q_stops, .inl (g 0, 10, .inl o3)), (q_p1, .inr (9, [.ref q_p1_houses, .ref q_p1_halls, .ref q_p1_posts, .ref q_p1_blocks, .ref q_p1_kinds, .int f_p1_hour, .int f_p1_day, .int f_p1_prankHouse, .int f_p1_bells, .int f_p1_echoes, .int f_p1_bellPranks])), (q_p1_houses, .inr (3, [.int f_p1_houses_size, .ref q_p1_houses_cells, .ref q_p1_houses_froms, .ref q_p1_houses_tos, .ref q_p1_houses_rings, .ref q_p1_houses_pranks])), (q_p1_houses_cells, .inl (g 0, 10, .inl a_p1_houses_cells)), (q_p1_blocks, .inl (g 0, 64, .inl a_p1_blocks))]) (wr := [(q_this, .inr (10, [.ref q_steps, .ref q_queue, .ref q_lows, .ref q_stops, .int f_stopCount, .int f_stepSum])), (q_steps, .inl (g 0, 64, .inl a_steps)), (q_queue, .inl (g 0, 64, .inl a_queue)), (q_p1, .inr (9, [.ref q_p1_houses, .ref q_p1_halls, .ref q_p1_posts, .ref q_p1_blocks, .ref q_p1_kinds, .int f_p1_hour, .int f_p1_day, .int f_p1_prankHouse, .int f_p1_bells, .int f_p1_echoes, .int f_p1_bellPranks])), (q_p1_houses, .inr (3, [.int f_p1_houses_size, .ref q_p1_houses_cells, .ref q_p1_houses_froms, .ref q_p1_houses_tos, .ref q_p1_houses_rings, .ref q_p1_houses_pranks])), (q_p1_houses_cells, .inl (g 0, 10, .inl a_p1_houses_cells)), (q_p1_blocks, .inl (g 0, 64, .inl a_p1_blocks))]) (as := [q_this, q_steps, q_queue, q_stops, q_p1, q_p1_houses, q_p1_houses_cells, q_p1_blocks]) X k_X7_put (c_X7_put l D g q_stops 10 x3 x2 a_stops o3 e4) ql_X10_X7_put dX10_goRound_46 [3] [0, 1, 2, 4, 5, 6, 7] ⟨rfl, rfl, rfl, rfl, rfl, rfl, rfl, rfl⟩ rfl rfl ⟨Nat.le_of_ble_eq_true rfl, Nat.le_of_ble_eq_true rfl, rfl, rfl, Nat.le_of_ble_eq_true rfl, Nat.le_of_ble_eq_true rfl⟩ (Nat.le_of_ble_eq_true rfl) ?_
          refine z_aload_n X 0 dX10_goRound_49 rfl rfl ?_
          refine z_dup X dX10_goRound_50 rfl ?_
          refine z_get (q0 := 0) (k := 4) (ci := 10) X IW_P iw_X10 rfl qf_X10_X10_stopCount (by decide) dX10_goRound_51 rfl rfl ?_
          refine z_iconst X (1 : Int32) dX10_goRound_54 (by decide) ?_
          refine z_iadd X dX10_goRound_55 ?_
          refine z_put (q0 := 0) (k := 4) (ci := 10) (ws' := [(q_this, .inr (10, [.ref q_steps, .ref q_queue, .ref q_lows, .ref q_stops, .int (f_stopCount + (1 : Int32)), .int f_stepSum])), (q_steps, .inl (g 0, 64, .inl a_steps)), (q_queue, .inl (g 0, 64, .inl a_queue)), (q_stops, .inl (g 0, 10, .inl o3)), (q_p1, .inr (9, [.ref q_p1_houses, .ref q_p1_halls, .ref q_p1_posts, .ref q_p1_blocks, .ref q_p1_kinds, .int f_p1_hour, .int f_p1_day, .int f_p1_prankHouse, .int f_p1_bells, .int f_p1_echoes, .int f_p1_bellPranks])), (q_p1_houses, .inr (3, [.int f_p1_houses_size, .ref q_p1_houses_cells, .ref q_p1_houses_froms, .ref q_p1_houses_tos, .ref q_p1_houses_rings, .ref q_p1_houses_pranks])), (q_p1_houses_cells, .inl (g 0, 10, .inl a_p1_houses_cells)), (q_p1_blocks, .inl (g 0, 64, .inl a_p1_blocks))]) X iw_X10 tyX10_ok nmX10 rfl qf_X10_X10_stopCount (by decide) rfl rfl dX10_goRound_56 rfl rfl rfl (Nat.le_of_ble_eq_true rfl) rfl ?_
          refine z_aload_n X 0 dX10_goRound_59 rfl rfl ?_
          refine z_aload_n X 1 dX10_goRound_60 rfl rfl ?_
          refine z_aload_n X 1 dX10_goRound_61 rfl rfl ?_
          refine z_getN (q0 := 4) (k := 0) (ci := 9) X IW_P iw_X9 rfl qfN_X10_X9_houses (by decide) dX10_goRound_62 rfl rfl ?_
          refine z_iload_n X 2 dX10_goRound_65 rfl rfl ?_
          obtain ⟨o5, e6, h⟩ := bnd_p h
          refine z_rdV (rest := [.ref q_p1, .ref q_this]) (q0 := 5) (ci := 3) X IW_P k_X2_cellAt (c_X2_cellAt l D g q_p1_houses q_p1_houses_cells q_p1_houses_froms q_p1_houses_tos q_p1_houses_rings q_p1_houses_pranks x2 f_p1_houses_size a_p1_houses_cells o5 e6) ql_X10_X2_cellAt dX10_goRound_66 [5, 6] rfl rfl rfl rfl rfl rfl ⟨Nat.le_of_ble_eq_true rfl, Nat.le_of_ble_eq_true rfl, rfl, rfl, Nat.le_of_ble_eq_true rfl, Nat.le_of_ble_eq_true rfl⟩ (Nat.le_of_ble_eq_true rfl) ?_
          obtain ⟨o7, e8, h⟩ := bnd_p h
          refine z_wrV (rest := []) (q0 := 0) (ci := 10) (ws' := [(q_this, .inr (10, [.ref q_steps, .ref q_queue, .ref q_lows, .ref q_stops, .int (f_stopCount + (1 : Int32)), .int f_stepSum])), (q_steps, .inl (g 0, 64, .inl o7.1)), (q_queue, .inl (g 0, 64, .inl o7.2)), (q_stops, .inl (g 0, 10, .inl o3)), (q_p1, .inr (9, [.ref q_p1_houses, .ref q_p1_halls, .ref q_p1_posts, .ref q_p1_blocks, .ref q_p1_kinds, .int f_p1_hour, .int f_p1_day, .int f_p1_prankHouse, .int f_p1_bells, .int f_p1_echoes, .int f_p1_bellPranks])), (q_p1_houses, .inr (3, [.int f_p1_houses_size, .ref q_p1_houses_cells, .ref q_p1_houses_froms, .ref q_p1_houses_tos, .ref q_p1_houses_rings, .ref q_p1_houses_pranks])), (q_p1_houses_cells, .inl (g 0, 10, .inl a_p1_houses_cells)), (q_p1_blocks, .inl (g 0, 64, .inl a_p1_blocks))]) (wr := [(q_stops, .inl (g 0, 10, .inl o3)), (q_p1_houses, .inr (3, [.int f_p1_houses_size, .ref q_p1_houses_cells, .ref q_p1_houses_froms, .ref q_p1_houses_tos, .ref q_p1_houses_rings, .ref q_p1_houses_pranks])), (q_p1_houses_cells, .inl (g 0, 10, .inl a_p1_houses_cells))]) (as := [q_this, q_steps, q_queue, q_stops, q_p1, q_p1_houses, q_p1_houses_cells, q_p1_blocks]) X k_X10_measure (c_X10_measure l D g q_this q_steps q_queue q_lows q_stops q_p1 q_p1_houses q_p1_halls q_p1_posts q_p1_blocks q_p1_kinds o5 (f_stopCount + (1 : Int32)) f_stepSum a_steps a_queue f_p1_hour f_p1_day f_p1_prankHouse f_p1_bells f_p1_echoes f_p1_bellPranks a_p1_blocks o7 e8) ql_X10_X10_measure dX10_goRound_69 [0, 1, 2, 4, 7] [3, 5, 6] ⟨rfl, rfl, rfl, rfl, rfl, rfl, rfl, rfl⟩ rfl rfl rfl rfl rfl ⟨Nat.le_of_ble_eq_true rfl, Nat.le_of_ble_eq_true rfl, rfl, rfl, Nat.le_of_ble_eq_true rfl, Nat.le_of_ble_eq_true rfl⟩ (Nat.le_of_ble_eq_true rfl) ?_
          refine z_aload_n X 0 dX10_goRound_72 rfl rfl ?_
          refine z_aload_n X 1 dX10_goRound_73 rfl rfl ?_
          refine z_getN (q0 := 4) (k := 0) (ci := 9) X IW_P iw_X9 rfl qfN_X10_X9_houses (by decide) dX10_goRound_74 rfl rfl ?_
          obtain ⟨o9, e10, h⟩ := bnd_p h
          refine z_rdV (rest := []) (q0 := 0) (ci := 10) X IW_P k_X10_nearest (c_X10_nearest l D g q_this q_steps q_queue q_lows q_stops q_p1_houses q_p1_houses_cells q_p1_houses_froms q_p1_houses_tos q_p1_houses_rings q_p1_houses_pranks (f_stopCount + (1 : Int32)) f_stepSum o7.1 o3 f_p1_houses_size a_p1_houses_cells o9 e10) ql_X10_X10_nearest dX10_goRound_77 [0, 1, 3, 5, 6] rfl rfl rfl rfl rfl rfl ⟨Nat.le_of_ble_eq_true rfl, Nat.le_of_ble_eq_true rfl, rfl, rfl, Nat.le_of_ble_eq_true rfl, Nat.le_of_ble_eq_true rfl⟩ (Nat.le_of_ble_eq_true rfl) ?_
          refine z_istore_n X [(2, .int o9), (0, .ref q_this), (1, .ref q_p1), (3, .int x3)] dX10_goRound_80 rfl (by decide) rfl ?_
          refine z_aload_n X 1 dX10_goRound_81 rfl rfl ?_
          refine z_dup X dX10_goRound_82 rfl ?_
          refine z_get (q0 := 0) (k := 5) (ci := 10) X IW_P iw_X10 rfl qf_X10_X10_stepSum (by decide) dX10_goRound_83 rfl rfl ?_
          refine z_iload_n X 0 dX10_goRound_86 rfl rfl ?_
          refine z_iconst X ((-1) : Int32) dX10_goRound_87 (by decide) ?_
          refine z_icmp_ne X 95 dX10_goRound_88 (by decide) h (fun _ h => ?_) (fun _ h => ?_)
          · refine z_iconst X (0 : Int32) dX10_goRound_91 (by decide) ?_
            refine z_goto X 110 dX10_goRound_92 (by decide) ?_
            refine z_sub (lv' := [(0, .ref q_this), (1, .ref q_p1), (2, .int o9), (3, .int x3)]) [1, 2, 0, 3] rfl ?_
            exact H110 (0 : Int32) f_stepSum o9 x3 (f_stopCount + (1 : Int32)) f_stepSum o7.1 o7.2 o3 h
          · refine z_aload_n X 1 dX10_goRound_95 rfl rfl ?_
            refine z_get (q0 := 0) (k := 0) (ci := 10) X IW_P iw_X10 rfl qf_X10_X10_steps (by decide) dX10_goRound_96 rfl rfl ?_
            refine z_aload_n X 2 dX10_goRound_99 rfl rfl ?_
            refine z_getN (q0 := 4) (k := 0) (ci := 9) X IW_P iw_X9 rfl qfN_X10_X9_houses (by decide) dX10_goRound_100 rfl rfl ?_
            refine z_iload_n X 0 dX10_goRound_103 rfl rfl ?_
            obtain ⟨o11, e12, h⟩ := bnd_p h
            refine z_rdV (rest := [.ref q_steps, .int f_stepSum, .ref q_this]) (q0 := 5) (ci := 3) X IW_P k_X2_cellAt (c_X2_cellAt l D g q_p1_houses q_p1_houses_cells q_p1_houses_froms q_p1_houses_tos q_p1_houses_rings q_p1_houses_pranks o9 f_p1_houses_size a_p1_houses_cells o11 e12) ql_X10_X2_cellAt dX10_goRound_104 [5, 6] rfl rfl rfl rfl rfl rfl ⟨Nat.le_of_ble_eq_true rfl, Nat.le_of_ble_eq_true rfl, rfl, rfl, Nat.le_of_ble_eq_true rfl, Nat.le_of_ble_eq_true rfl⟩ (Nat.le_of_ble_eq_true rfl) ?_
            obtain ⟨o13, e14, h⟩ := bnd_p h
            refine z_rdS (rest := [.int f_stepSum, .ref q_this]) X IW_P k_X7_at (c_X7_at l D g q_steps 64 o11 o7.1 o13 e14) ql_X10_X7_at dX10_goRound_107 [1] rfl rfl rfl ⟨Nat.le_of_ble_eq_true rfl, Nat.le_of_ble_eq_true rfl, rfl, rfl, Nat.le_of_ble_eq_true rfl, Nat.le_of_ble_eq_true rfl⟩ (Nat.le_of_ble_eq_true rfl) ?_
            refine z_sub (lv' := [(0, .ref q_this), (1, .ref q_p1), (2, .int o9), (3, .int x3)]) [1, 2, 0, 3] rfl ?_
            exact H110 o13 f_stepSum o9 x3 (f_stopCount + (1 : Int32)) f_stepSum o7.1 o7.2 o3 h
  have H26 : ∀ (t0 : Int32) (f_stopCount : Int32) (f_stepSum : Int32) (a_steps : Nat → Int32) (a_queue : Nat → Int32) (a_stops : Nat → Int32), J_X10_goRound_26 f_p1_houses_size a_p1_houses_cells a_p1_blocks t0 f_stopCount f_stepSum a_steps a_queue a_stops = some o → Z p l e { frames := 5, cells := 0, slots := 0, locals := 113 } s m args below meth c Q 4 0 0 (IW D A s [(q_this, .inr (10, [.ref q_steps, .ref q_queue, .ref q_lows, .ref q_stops, .int f_stopCount, .int f_stepSum])), (q_steps, .inl (g 0, 64, .inl a_steps)), (q_queue, .inl (g 0, 64, .inl a_queue)), (q_stops, .inl (g 0, 10, .inl a_stops)), (q_p1, .inr (9, [.ref q_p1_houses, .ref q_p1_halls, .ref q_p1_posts, .ref q_p1_blocks, .ref q_p1_kinds, .int f_p1_hour, .int f_p1_day, .int f_p1_prankHouse, .int f_p1_bells, .int f_p1_echoes, .int f_p1_bellPranks])), (q_p1_houses, .inr (3, [.int f_p1_houses_size, .ref q_p1_houses_cells, .ref q_p1_houses_froms, .ref q_p1_houses_tos, .ref q_p1_houses_rings, .ref q_p1_houses_pranks])), (q_p1_houses_cells, .inl (g 0, 10, .inl a_p1_houses_cells)), (q_p1_blocks, .inl (g 0, 64, .inl a_p1_blocks))]) 26 [(0, .ref q_this), (1, .ref q_p1)] [.int t0] := by
    intro t0 f_stopCount f_stepSum a_steps a_queue a_stops h
    refine z_istore_n X [(2, .int t0), (0, .ref q_this), (1, .ref q_p1)] dX10_goRound_26 rfl (by decide) rfl ?_
    refine z_iconst X (0 : Int32) dX10_goRound_27 (by decide) ?_
    refine z_istore_n X [(3, .int (0 : Int32)), (2, .int t0), (0, .ref q_this), (1, .ref q_p1)] dX10_goRound_28 rfl (by decide) rfl ?_
    refine z_sub (lv' := [(0, .ref q_this), (1, .ref q_p1), (2, .int t0), (3, .int (0 : Int32))]) [2, 3, 1, 0] rfl ?_
    exact H29 100 t0 (0 : Int32) f_stopCount f_stepSum a_steps a_queue a_stops h
  refine z_aload_n X 0 dX10_goRound_0 rfl rfl ?_
  refine z_iconst X (0 : Int32) dX10_goRound_1 (by decide) ?_
  refine z_put (q0 := 0) (k := 4) (ci := 10) (ws' := [(q_this, .inr (10, [.ref q_steps, .ref q_queue, .ref q_lows, .ref q_stops, .int (0 : Int32), .int f_stepSum])), (q_steps, .inl (g 0, 64, .inl a_steps)), (q_queue, .inl (g 0, 64, .inl a_queue)), (q_stops, .inl (g 0, 10, .inl a_stops)), (q_p1, .inr (9, [.ref q_p1_houses, .ref q_p1_halls, .ref q_p1_posts, .ref q_p1_blocks, .ref q_p1_kinds, .int f_p1_hour, .int f_p1_day, .int f_p1_prankHouse, .int f_p1_bells, .int f_p1_echoes, .int f_p1_bellPranks])), (q_p1_houses, .inr (3, [.int f_p1_houses_size, .ref q_p1_houses_cells, .ref q_p1_houses_froms, .ref q_p1_houses_tos, .ref q_p1_houses_rings, .ref q_p1_houses_pranks])), (q_p1_houses_cells, .inl (g 0, 10, .inl a_p1_houses_cells)), (q_p1_blocks, .inl (g 0, 64, .inl a_p1_blocks))]) X iw_X10 tyX10_ok nmX10 rfl qf_X10_X10_stopCount (by decide) rfl rfl dX10_goRound_2 rfl rfl rfl (Nat.le_of_ble_eq_true rfl) rfl ?_
  refine z_aload_n X 0 dX10_goRound_5 rfl rfl ?_
  refine z_iconst X (0 : Int32) dX10_goRound_6 (by decide) ?_
  refine z_put (q0 := 0) (k := 5) (ci := 10) (ws' := [(q_this, .inr (10, [.ref q_steps, .ref q_queue, .ref q_lows, .ref q_stops, .int (0 : Int32), .int (0 : Int32)])), (q_steps, .inl (g 0, 64, .inl a_steps)), (q_queue, .inl (g 0, 64, .inl a_queue)), (q_stops, .inl (g 0, 10, .inl a_stops)), (q_p1, .inr (9, [.ref q_p1_houses, .ref q_p1_halls, .ref q_p1_posts, .ref q_p1_blocks, .ref q_p1_kinds, .int f_p1_hour, .int f_p1_day, .int f_p1_prankHouse, .int f_p1_bells, .int f_p1_echoes, .int f_p1_bellPranks])), (q_p1_houses, .inr (3, [.int f_p1_houses_size, .ref q_p1_houses_cells, .ref q_p1_houses_froms, .ref q_p1_houses_tos, .ref q_p1_houses_rings, .ref q_p1_houses_pranks])), (q_p1_houses_cells, .inl (g 0, 10, .inl a_p1_houses_cells)), (q_p1_blocks, .inl (g 0, 64, .inl a_p1_blocks))]) X iw_X10 tyX10_ok nmX10 rfl qf_X10_X10_stepSum (by decide) rfl rfl dX10_goRound_7 rfl rfl rfl (Nat.le_of_ble_eq_true rfl) rfl ?_
  refine z_aload_n X 1 dX10_goRound_10 rfl rfl ?_
  refine z_getN (q0 := 4) (k := 0) (ci := 9) X IW_P iw_X9 rfl qfN_X10_X9_houses (by decide) dX10_goRound_11 rfl rfl ?_
  refine z_iconst X (0 : Int32) dX10_goRound_14 (by decide) ?_
  obtain ⟨o1, e2, h⟩ := bnd_p h
  refine z_rdV (rest := []) (q0 := 5) (ci := 3) X IW_P k_X2_has (c_X2_has l D g q_p1_houses q_p1_houses_cells q_p1_houses_froms q_p1_houses_tos q_p1_houses_rings q_p1_houses_pranks (0 : Int32) f_p1_houses_size o1 e2) ql_X10_X2_has dX10_goRound_15 [5] rfl rfl rfl rfl rfl rfl ⟨Nat.le_of_ble_eq_true rfl, Nat.le_of_ble_eq_true rfl, rfl, rfl, Nat.le_of_ble_eq_true rfl, Nat.le_of_ble_eq_true rfl⟩ (Nat.le_of_ble_eq_true rfl) ?_
  refine z_if_eq X 25 dX10_goRound_18 (by decide) h (fun _ h => ?_) (fun _ h => ?_)
  · refine z_iconst X ((-1) : Int32) dX10_goRound_25 (by decide) ?_
    exact H26 ((-1) : Int32) (0 : Int32) (0 : Int32) a_steps a_queue a_stops h
  · refine z_iconst X (0 : Int32) dX10_goRound_21 (by decide) ?_
    refine z_goto X 26 dX10_goRound_22 (by decide) ?_
    exact H26 (0 : Int32) (0 : Int32) (0 : Int32) a_steps a_queue a_stops h

def F_X10_stopAt (p1 : Int32) (f_stopCount : Int32) (a_stops : Nat → Int32) : Option (Int32) :=
  brn (f_stopCount ≤ p1) (some (((-1) : Int32))) (bnd (F_X7_at 10 p1 a_stops) (fun o1 => some (o1)))
theorem dX10_stopAt_0 : decode cX10_stopAt 0 = .ok (.iload_n 1, 1) := by decide +kernel
theorem dX10_stopAt_1 : decode cX10_stopAt 1 = .ok (.aload_n 0, 1) := by decide +kernel
theorem dX10_stopAt_2 : decode cX10_stopAt 2 = .ok (.getfield 24, 3) := by decide +kernel
theorem dX10_stopAt_5 : decode cX10_stopAt 5 = .ok (.if_icmp .ge 14, 3) := by decide +kernel
theorem dX10_stopAt_8 : decode cX10_stopAt 8 = .ok (.aload_n 0, 1) := by decide +kernel
theorem dX10_stopAt_9 : decode cX10_stopAt 9 = .ok (.getfield 21, 3) := by decide +kernel
theorem dX10_stopAt_12 : decode cX10_stopAt 12 = .ok (.iload_n 1, 1) := by decide +kernel
theorem dX10_stopAt_13 : decode cX10_stopAt 13 = .ok (.invokestatic 35, 3) := by decide +kernel
theorem dX10_stopAt_16 : decode cX10_stopAt 16 = .ok (.goto 4, 3) := by decide +kernel
theorem dX10_stopAt_19 : decode cX10_stopAt 19 = .ok (.iconst (-1), 1) := by decide +kernel
theorem dX10_stopAt_20 : decode cX10_stopAt 20 = .ok (.ireturn, 1) := by decide +kernel
theorem k_X10_stopAt : cardV yX10_stopAt (Cond.code yX10_stopAt cX10_stopAt 2 (some .int)) 1 := ⟨⟨qi_X10_stopAt, qv_X10_stopAt⟩, qc_X10_stopAt, qn_X10, by decide +kernel, by decide +kernel, by decide +kernel⟩
set_option maxHeartbeats 4000000 in
set_option maxRecDepth 100000 in
theorem c_X10_stopAt (l : Launch) (D : va_G) (g : Nat → ClassId) (q_this q_steps q_queue q_lows q_stops : Nat) (p1 : Int32) (f_stopCount : Int32) (f_stepSum : Int32) (a_stops : Nat → Int32) (o : Int32) (h : F_X10_stopAt p1 f_stopCount a_stops = some o) : MR l yX10_stopAt (Cond.code yX10_stopAt cX10_stopAt 2 (some .int)) { frames := 1, cells := 0, slots := 0, locals := 21 } D g [.ref q_this, .int p1] [(q_this, .inr (10, [.ref q_steps, .ref q_queue, .ref q_lows, .ref q_stops, .int f_stopCount, .int f_stepSum])), (q_stops, .inl (g 0, 10, .inl a_stops))] (some (.int o)) := by
  refine z_rd_start (by decide) (Nat.le_of_ble_eq_true rfl) ?_
  intro p e s m args below meth c Q X hr hQ
  refine z_lv (lv' := [(0, .ref q_this), (1, .int p1)]) rfl ?_
  refine z_iload_n X 1 dX10_stopAt_0 rfl rfl ?_
  refine z_aload_n X 0 dX10_stopAt_1 rfl rfl ?_
  refine z_get (q0 := 0) (k := 4) (ci := 10) X IR_P iw_X10 rfl qf_X10_X10_stopCount (by decide) dX10_stopAt_2 rfl rfl ?_
  refine z_icmp_ge X 19 dX10_stopAt_5 (by decide) h (fun _ h => ?_) (fun _ h => ?_)
  · refine z_iconst X ((-1) : Int32) dX10_stopAt_19 (by decide) ?_
    exact z_iretR X hQ hr dX10_stopAt_20 h
  · refine z_aload_n X 0 dX10_stopAt_8 rfl rfl ?_
    refine z_get (q0 := 0) (k := 3) (ci := 10) X IR_P iw_X10 rfl qf_X10_X10_stops (by decide) dX10_stopAt_9 rfl rfl ?_
    refine z_iload_n X 1 dX10_stopAt_12 rfl rfl ?_
    obtain ⟨o1, e2, h⟩ := bnd_p h
    refine z_rdS (rest := []) X IR_P k_X7_at (c_X7_at l D g q_stops 10 p1 a_stops o1 e2) ql_X10_X7_at dX10_stopAt_13 [1] rfl rfl rfl ⟨Nat.le_of_ble_eq_true rfl, Nat.le_of_ble_eq_true rfl, rfl, rfl, Nat.le_of_ble_eq_true rfl, Nat.le_of_ble_eq_true rfl⟩ (Nat.le_of_ble_eq_true rfl) ?_
    refine z_goto X 20 dX10_stopAt_16 (by decide) ?_
    exact z_iretR X hQ hr dX10_stopAt_20 h

def F_X10_roundSteps (f_stepSum : Int32) : Option (Int32) :=
  some (f_stepSum)
theorem dX10_roundSteps_0 : decode cX10_roundSteps 0 = .ok (.aload_n 0, 1) := by decide +kernel
theorem dX10_roundSteps_1 : decode cX10_roundSteps 1 = .ok (.getfield 28, 3) := by decide +kernel
theorem dX10_roundSteps_4 : decode cX10_roundSteps 4 = .ok (.ireturn, 1) := by decide +kernel
theorem k_X10_roundSteps : cardV yX10_roundSteps (Cond.code yX10_roundSteps cX10_roundSteps 1 (some .int)) 0 := ⟨⟨qi_X10_roundSteps, qv_X10_roundSteps⟩, qc_X10_roundSteps, qn_X10, by decide +kernel, by decide +kernel, by decide +kernel⟩
set_option maxHeartbeats 4000000 in
set_option maxRecDepth 100000 in
theorem c_X10_roundSteps (l : Launch) (D : va_G) (g : Nat → ClassId) (q_this q_steps q_queue q_lows q_stops : Nat) (f_stopCount : Int32) (f_stepSum : Int32) (o : Int32) (h : F_X10_roundSteps f_stepSum = some o) : MR l yX10_roundSteps (Cond.code yX10_roundSteps cX10_roundSteps 1 (some .int)) { frames := 0, cells := 0, slots := 0, locals := 0 } D g [.ref q_this] [(q_this, .inr (10, [.ref q_steps, .ref q_queue, .ref q_lows, .ref q_stops, .int f_stopCount, .int f_stepSum]))] (some (.int o)) := by
  refine z_rd_start (by decide) (Nat.le_of_ble_eq_true rfl) ?_
  intro p e s m args below meth c Q X hr hQ
  refine z_lv (lv' := [(0, .ref q_this)]) rfl ?_
  refine z_aload_n X 0 dX10_roundSteps_0 rfl rfl ?_
  refine z_get (q0 := 0) (k := 5) (ci := 10) X IR_P iw_X10 rfl qf_X10_X10_stepSum (by decide) dX10_roundSteps_1 rfl rfl ?_
  exact z_iretR X hQ hr dX10_roundSteps_4 h

def F_X11_steps (f_town_houses_size : Int32) (a_town_houses_cells : Nat → Int32) (a_town_blocks : Nat → Int32) (f_ways_stopCount : Int32) (f_ways_stepSum : Int32) (a_ways_steps : Nat → Int32) (a_ways_queue : Nat → Int32) (a_ways_stops : Nat → Int32) : Option (Int32 × Int32 × Int32 × (Nat → Int32) × (Nat → Int32) × (Nat → Int32)) :=
  bnd (F_X10_goRound f_town_houses_size a_town_houses_cells a_town_blocks f_ways_stopCount f_ways_stepSum a_ways_steps a_ways_queue a_ways_stops) (fun o1 => bnd (F_X10_roundSteps o1.2.1) (fun o3 => some (o3, o1.1, o1.2.1, o1.2.2.1, o1.2.2.2.1, o1.2.2.2.2)))
theorem dX11_steps_0 : decode cX11_steps 0 = .ok (.aload_n 0, 1) := by decide +kernel
theorem dX11_steps_1 : decode cX11_steps 1 = .ok (.getfield 50, 3) := by decide +kernel
theorem dX11_steps_4 : decode cX11_steps 4 = .ok (.aload_n 0, 1) := by decide +kernel
theorem dX11_steps_5 : decode cX11_steps 5 = .ok (.getfield 10, 3) := by decide +kernel
theorem dX11_steps_8 : decode cX11_steps 8 = .ok (.invokevirtual 254, 3) := by decide +kernel
theorem dX11_steps_11 : decode cX11_steps 11 = .ok (.aload_n 0, 1) := by decide +kernel
theorem dX11_steps_12 : decode cX11_steps 12 = .ok (.getfield 50, 3) := by decide +kernel
theorem dX11_steps_15 : decode cX11_steps 15 = .ok (.invokevirtual 260, 3) := by decide +kernel
theorem dX11_steps_18 : decode cX11_steps 18 = .ok (.ireturn, 1) := by decide +kernel
theorem k_X11_steps : cardV yX11_steps (Cond.code yX11_steps cX11_steps 1 (some .int)) 0 := ⟨⟨qi_X11_steps, qv_X11_steps⟩, qc_X11_steps, qn_X11, by decide +kernel, by decide +kernel, by decide +kernel⟩
set_option maxHeartbeats 4000000 in
set_option maxRecDepth 100000 in
theorem c_X11_steps (l : Launch) (D : va_G) (g : Nat → ClassId) (q_this q_town q_ahead q_kept q_past q_reason q_orders q_ways q_sheet q_town_houses q_town_halls q_town_posts q_town_blocks q_town_kinds q_town_houses_cells q_town_houses_froms q_town_houses_tos q_town_houses_rings q_town_houses_pranks q_ways_steps q_ways_queue q_ways_lows q_ways_stops : Nat) (f_isKept : Int32) (f_town_hour : Int32) (f_town_day : Int32) (f_town_prankHouse : Int32) (f_town_bells : Int32) (f_town_echoes : Int32) (f_town_bellPranks : Int32) (f_town_houses_size : Int32) (a_town_houses_cells : Nat → Int32) (a_town_blocks : Nat → Int32) (f_ways_stopCount : Int32) (f_ways_stepSum : Int32) (a_ways_steps : Nat → Int32) (a_ways_queue : Nat → Int32) (a_ways_stops : Nat → Int32) (o : Int32 × Int32 × Int32 × (Nat → Int32) × (Nat → Int32) × (Nat → Int32)) (h : F_X11_steps f_town_houses_size a_town_houses_cells a_town_blocks f_ways_stopCount f_ways_stepSum a_ways_steps a_ways_queue a_ways_stops = some o) : MW l yX11_steps (Cond.code yX11_steps cX11_steps 1 (some .int)) { frames := 6, cells := 0, slots := 0, locals := 136 } D g [.ref q_this] [(q_this, .inr (11, [.ref q_town, .ref q_ahead, .ref q_kept, .int f_isKept, .ref q_past, .ref q_reason, .ref q_orders, .ref q_ways, .ref q_sheet])), (q_town, .inr (9, [.ref q_town_houses, .ref q_town_halls, .ref q_town_posts, .ref q_town_blocks, .ref q_town_kinds, .int f_town_hour, .int f_town_day, .int f_town_prankHouse, .int f_town_bells, .int f_town_echoes, .int f_town_bellPranks])), (q_town_houses, .inr (3, [.int f_town_houses_size, .ref q_town_houses_cells, .ref q_town_houses_froms, .ref q_town_houses_tos, .ref q_town_houses_rings, .ref q_town_houses_pranks])), (q_town_houses_cells, .inl (g 0, 10, .inl a_town_houses_cells)), (q_town_blocks, .inl (g 0, 64, .inl a_town_blocks)), (q_ways, .inr (10, [.ref q_ways_steps, .ref q_ways_queue, .ref q_ways_lows, .ref q_ways_stops, .int f_ways_stopCount, .int f_ways_stepSum])), (q_ways_steps, .inl (g 0, 64, .inl a_ways_steps)), (q_ways_queue, .inl (g 0, 64, .inl a_ways_queue)), (q_ways_stops, .inl (g 0, 10, .inl a_ways_stops))] (some (.int o.1)) [(q_this, .inr (11, [.ref q_town, .ref q_ahead, .ref q_kept, .int f_isKept, .ref q_past, .ref q_reason, .ref q_orders, .ref q_ways, .ref q_sheet])), (q_town, .inr (9, [.ref q_town_houses, .ref q_town_halls, .ref q_town_posts, .ref q_town_blocks, .ref q_town_kinds, .int f_town_hour, .int f_town_day, .int f_town_prankHouse, .int f_town_bells, .int f_town_echoes, .int f_town_bellPranks])), (q_town_houses, .inr (3, [.int f_town_houses_size, .ref q_town_houses_cells, .ref q_town_houses_froms, .ref q_town_houses_tos, .ref q_town_houses_rings, .ref q_town_houses_pranks])), (q_town_houses_cells, .inl (g 0, 10, .inl a_town_houses_cells)), (q_town_blocks, .inl (g 0, 64, .inl a_town_blocks)), (q_ways, .inr (10, [.ref q_ways_steps, .ref q_ways_queue, .ref q_ways_lows, .ref q_ways_stops, .int o.2.1, .int o.2.2.1])), (q_ways_steps, .inl (g 0, 64, .inl o.2.2.2.1)), (q_ways_queue, .inl (g 0, 64, .inl o.2.2.2.2.1)), (q_ways_stops, .inl (g 0, 10, .inl o.2.2.2.2.2))] := by
  refine z_wr_start (by decide) (Nat.le_of_ble_eq_true rfl) ?_
  intro p e s m args below meth c Q A X hr hQ hA
  refine z_lv (lv' := [(0, .ref q_this)]) rfl ?_
  refine z_aload_n X 0 dX11_steps_0 rfl rfl ?_
  refine z_get (q0 := 0) (k := 7) (ci := 11) X IW_P iw_X11 rfl qf_X11_X11_ways (by decide) dX11_steps_1 rfl rfl ?_
  refine z_aload_n X 0 dX11_steps_4 rfl rfl ?_
  refine z_get (q0 := 0) (k := 0) (ci := 11) X IW_P iw_X11 rfl qf_X11_X11_town (by decide) dX11_steps_5 rfl rfl ?_
  obtain ⟨o1, e2, h⟩ := bnd_p h
  refine z_wrV (rest := []) (q0 := 5) (ci := 10) (ws' := [(q_this, .inr (11, [.ref q_town, .ref q_ahead, .ref q_kept, .int f_isKept, .ref q_past, .ref q_reason, .ref q_orders, .ref q_ways, .ref q_sheet])), (q_town, .inr (9, [.ref q_town_houses, .ref q_town_halls, .ref q_town_posts, .ref q_town_blocks, .ref q_town_kinds, .int f_town_hour, .int f_town_day, .int f_town_prankHouse, .int f_town_bells, .int f_town_echoes, .int f_town_bellPranks])), (q_town_houses, .inr (3, [.int f_town_houses_size, .ref q_town_houses_cells, .ref q_town_houses_froms, .ref q_town_houses_tos, .ref q_town_houses_rings, .ref q_town_houses_pranks])), (q_town_houses_cells, .inl (g 0, 10, .inl a_town_houses_cells)), (q_town_blocks, .inl (g 0, 64, .inl a_town_blocks)), (q_ways, .inr (10, [.ref q_ways_steps, .ref q_ways_queue, .ref q_ways_lows, .ref q_ways_stops, .int o1.1, .int o1.2.1])), (q_ways_steps, .inl (g 0, 64, .inl o1.2.2.1)), (q_ways_queue, .inl (g 0, 64, .inl o1.2.2.2.1)), (q_ways_stops, .inl (g 0, 10, .inl o1.2.2.2.2))]) (wr := [(q_this, .inr (11, [.ref q_town, .ref q_ahead, .ref q_kept, .int f_isKept, .ref q_past, .ref q_reason, .ref q_orders, .ref q_ways, .ref q_sheet]))]) (as := [q_this, q_town, q_town_houses, q_town_houses_cells, q_town_blocks, q_ways, q_ways_steps, q_ways_queue, q_ways_stops]) X k_X10_goRound (c_X10_goRound l D g q_ways q_ways_steps q_ways_queue q_ways_lows q_ways_stops q_town q_town_houses q_town_halls q_town_posts q_town_blocks q_town_kinds q_town_houses_cells q_town_houses_froms q_town_houses_tos q_town_houses_rings q_town_houses_pranks f_ways_stopCount f_ways_stepSum a_ways_steps a_ways_queue a_ways_stops f_town_hour f_town_day f_town_prankHouse f_town_bells f_town_echoes f_town_bellPranks f_town_houses_size a_town_houses_cells a_town_blocks o1 e2) ql_X11_X10_goRound dX11_steps_8 [5, 6, 7, 8, 1, 2, 3, 4] [0] ⟨rfl, rfl, rfl, rfl, rfl, rfl, rfl, rfl⟩ rfl rfl rfl rfl rfl ⟨Nat.le_of_ble_eq_true rfl, Nat.le_of_ble_eq_true rfl, rfl, rfl, Nat.le_of_ble_eq_true rfl, Nat.le_of_ble_eq_true rfl⟩ (Nat.le_of_ble_eq_true rfl) ?_
  refine z_aload_n X 0 dX11_steps_11 rfl rfl ?_
  refine z_get (q0 := 0) (k := 7) (ci := 11) X IW_P iw_X11 rfl qf_X11_X11_ways (by decide) dX11_steps_12 rfl rfl ?_
  obtain ⟨o3, e4, h⟩ := bnd_p h
  refine z_rdV (rest := []) (q0 := 5) (ci := 10) X IW_P k_X10_roundSteps (c_X10_roundSteps l D g q_ways q_ways_steps q_ways_queue q_ways_lows q_ways_stops o1.1 o1.2.1 o3 e4) ql_X11_X10_roundSteps dX11_steps_15 [5] rfl rfl rfl rfl rfl rfl ⟨Nat.le_of_ble_eq_true rfl, Nat.le_of_ble_eq_true rfl, rfl, rfl, Nat.le_of_ble_eq_true rfl, Nat.le_of_ble_eq_true rfl⟩ (Nat.le_of_ble_eq_true rfl) ?_
  cases h
  exact z_iretW X hQ hA hr dX11_steps_18

def F_X2_isAhead (p1 : Int32) (p2 : Int32) (a_rings : Nat → Int32) (a_pranks : Nat → Int32) : Option (Int32) :=
  bnd (F_X2_pranksAt p1 a_pranks) (fun o1 => bnd (F_X2_pranksAt p2 a_pranks) (fun o3 => brn (o1 = o3) (bnd (F_X2_ringsAt p1 a_rings) (fun o5 => bnd (F_X2_ringsAt p2 a_rings) (fun o7 => brn (o5 = o7) (brn (p2 ≤ p1) (some ((0 : Int32))) (some ((1 : Int32)))) (bnd (F_X2_ringsAt p1 a_rings) (fun o9 => bnd (F_X2_ringsAt p2 a_rings) (fun o11 => brn (o9 ≤ o11) (some ((0 : Int32))) (some ((1 : Int32))))))))) (bnd (F_X2_pranksAt p1 a_pranks) (fun o13 => bnd (F_X2_pranksAt p2 a_pranks) (fun o15 => brn (o13 ≤ o15) (some ((0 : Int32))) (some ((1 : Int32))))))))
theorem dX2_isAhead_0 : decode cX2_isAhead 0 = .ok (.aload_n 0, 1) := by decide +kernel
theorem dX2_isAhead_1 : decode cX2_isAhead 1 = .ok (.iload_n 1, 1) := by decide +kernel
theorem dX2_isAhead_2 : decode cX2_isAhead 2 = .ok (.invokevirtual 53, 3) := by decide +kernel
theorem dX2_isAhead_5 : decode cX2_isAhead 5 = .ok (.aload_n 0, 1) := by decide +kernel
theorem dX2_isAhead_6 : decode cX2_isAhead 6 = .ok (.iload_n 2, 1) := by decide +kernel
theorem dX2_isAhead_7 : decode cX2_isAhead 7 = .ok (.invokevirtual 53, 3) := by decide +kernel
theorem dX2_isAhead_10 : decode cX2_isAhead 10 = .ok (.if_icmp .eq 22, 3) := by decide +kernel
theorem dX2_isAhead_13 : decode cX2_isAhead 13 = .ok (.aload_n 0, 1) := by decide +kernel
theorem dX2_isAhead_14 : decode cX2_isAhead 14 = .ok (.iload_n 1, 1) := by decide +kernel
theorem dX2_isAhead_15 : decode cX2_isAhead 15 = .ok (.invokevirtual 53, 3) := by decide +kernel
theorem dX2_isAhead_18 : decode cX2_isAhead 18 = .ok (.aload_n 0, 1) := by decide +kernel
theorem dX2_isAhead_19 : decode cX2_isAhead 19 = .ok (.iload_n 2, 1) := by decide +kernel
theorem dX2_isAhead_20 : decode cX2_isAhead 20 = .ok (.invokevirtual 53, 3) := by decide +kernel
theorem dX2_isAhead_23 : decode cX2_isAhead 23 = .ok (.if_icmp .le 7, 3) := by decide +kernel
theorem dX2_isAhead_26 : decode cX2_isAhead 26 = .ok (.iconst 1, 1) := by decide +kernel
theorem dX2_isAhead_27 : decode cX2_isAhead 27 = .ok (.goto 4, 3) := by decide +kernel
theorem dX2_isAhead_30 : decode cX2_isAhead 30 = .ok (.iconst 0, 1) := by decide +kernel
theorem dX2_isAhead_31 : decode cX2_isAhead 31 = .ok (.ireturn, 1) := by decide +kernel
theorem dX2_isAhead_32 : decode cX2_isAhead 32 = .ok (.aload_n 0, 1) := by decide +kernel
theorem dX2_isAhead_33 : decode cX2_isAhead 33 = .ok (.iload_n 1, 1) := by decide +kernel
theorem dX2_isAhead_34 : decode cX2_isAhead 34 = .ok (.invokevirtual 49, 3) := by decide +kernel
theorem dX2_isAhead_37 : decode cX2_isAhead 37 = .ok (.aload_n 0, 1) := by decide +kernel
theorem dX2_isAhead_38 : decode cX2_isAhead 38 = .ok (.iload_n 2, 1) := by decide +kernel
theorem dX2_isAhead_39 : decode cX2_isAhead 39 = .ok (.invokevirtual 49, 3) := by decide +kernel
theorem dX2_isAhead_42 : decode cX2_isAhead 42 = .ok (.if_icmp .eq 22, 3) := by decide +kernel
theorem dX2_isAhead_45 : decode cX2_isAhead 45 = .ok (.aload_n 0, 1) := by decide +kernel
theorem dX2_isAhead_46 : decode cX2_isAhead 46 = .ok (.iload_n 1, 1) := by decide +kernel
theorem dX2_isAhead_47 : decode cX2_isAhead 47 = .ok (.invokevirtual 49, 3) := by decide +kernel
theorem dX2_isAhead_50 : decode cX2_isAhead 50 = .ok (.aload_n 0, 1) := by decide +kernel
theorem dX2_isAhead_51 : decode cX2_isAhead 51 = .ok (.iload_n 2, 1) := by decide +kernel
theorem dX2_isAhead_52 : decode cX2_isAhead 52 = .ok (.invokevirtual 49, 3) := by decide +kernel
theorem dX2_isAhead_55 : decode cX2_isAhead 55 = .ok (.if_icmp .le 7, 3) := by decide +kernel
theorem dX2_isAhead_58 : decode cX2_isAhead 58 = .ok (.iconst 1, 1) := by decide +kernel
theorem dX2_isAhead_59 : decode cX2_isAhead 59 = .ok (.goto 4, 3) := by decide +kernel
theorem dX2_isAhead_62 : decode cX2_isAhead 62 = .ok (.iconst 0, 1) := by decide +kernel
theorem dX2_isAhead_63 : decode cX2_isAhead 63 = .ok (.ireturn, 1) := by decide +kernel
theorem dX2_isAhead_64 : decode cX2_isAhead 64 = .ok (.iload_n 1, 1) := by decide +kernel
theorem dX2_isAhead_65 : decode cX2_isAhead 65 = .ok (.iload_n 2, 1) := by decide +kernel
theorem dX2_isAhead_66 : decode cX2_isAhead 66 = .ok (.if_icmp .ge 7, 3) := by decide +kernel
theorem dX2_isAhead_69 : decode cX2_isAhead 69 = .ok (.iconst 1, 1) := by decide +kernel
theorem dX2_isAhead_70 : decode cX2_isAhead 70 = .ok (.goto 4, 3) := by decide +kernel
theorem dX2_isAhead_73 : decode cX2_isAhead 73 = .ok (.iconst 0, 1) := by decide +kernel
theorem dX2_isAhead_74 : decode cX2_isAhead 74 = .ok (.ireturn, 1) := by decide +kernel
theorem k_X2_isAhead : cardV yX2_isAhead (Cond.code yX2_isAhead cX2_isAhead 3 (some .boolean)) 2 := ⟨⟨qi_X2_isAhead, qv_X2_isAhead⟩, qc_X2_isAhead, qn_X2, by decide +kernel, by decide +kernel, by decide +kernel⟩
set_option maxHeartbeats 4000000 in
set_option maxRecDepth 100000 in
theorem c_X2_isAhead (l : Launch) (D : va_G) (g : Nat → ClassId) (q_this q_cells q_froms q_tos q_rings q_pranks : Nat) (p1 p2 : Int32) (f_size : Int32) (a_rings : Nat → Int32) (a_pranks : Nat → Int32) (o : Int32) (h : F_X2_isAhead p1 p2 a_rings a_pranks = some o) : MR l yX2_isAhead (Cond.code yX2_isAhead cX2_isAhead 3 (some .boolean)) { frames := 2, cells := 0, slots := 0, locals := 42 } D g [.ref q_this, .int p1, .int p2] [(q_this, .inr (3, [.int f_size, .ref q_cells, .ref q_froms, .ref q_tos, .ref q_rings, .ref q_pranks])), (q_rings, .inl (g 0, 10, .inl a_rings)), (q_pranks, .inl (g 0, 10, .inl a_pranks))] (some (.int o)) := by
  refine z_rd_start (by decide) (Nat.le_of_ble_eq_true rfl) ?_
  intro p e s m args below meth c Q X hr hQ
  refine z_lv (lv' := [(0, .ref q_this), (1, .int p1), (2, .int p2)]) rfl ?_
  refine z_aload_n X 0 dX2_isAhead_0 rfl rfl ?_
  refine z_iload_n X 1 dX2_isAhead_1 rfl rfl ?_
  obtain ⟨o1, e2, h⟩ := bnd_p h
  refine z_rdV (rest := []) (q0 := 0) (ci := 3) X IR_P k_X2_pranksAt (c_X2_pranksAt l D g q_this q_cells q_froms q_tos q_rings q_pranks p1 f_size a_pranks o1 e2) ql_X2_X2_pranksAt dX2_isAhead_2 [0, 2] rfl rfl rfl rfl rfl rfl ⟨Nat.le_of_ble_eq_true rfl, Nat.le_of_ble_eq_true rfl, rfl, rfl, Nat.le_of_ble_eq_true rfl, Nat.le_of_ble_eq_true rfl⟩ (Nat.le_of_ble_eq_true rfl) ?_
  refine z_aload_n X 0 dX2_isAhead_5 rfl rfl ?_
  refine z_iload_n X 2 dX2_isAhead_6 rfl rfl ?_
  obtain ⟨o3, e4, h⟩ := bnd_p h
  refine z_rdV (rest := [.int o1]) (q0 := 0) (ci := 3) X IR_P k_X2_pranksAt (c_X2_pranksAt l D g q_this q_cells q_froms q_tos q_rings q_pranks p2 f_size a_pranks o3 e4) ql_X2_X2_pranksAt dX2_isAhead_7 [0, 2] rfl rfl rfl rfl rfl rfl ⟨Nat.le_of_ble_eq_true rfl, Nat.le_of_ble_eq_true rfl, rfl, rfl, Nat.le_of_ble_eq_true rfl, Nat.le_of_ble_eq_true rfl⟩ (Nat.le_of_ble_eq_true rfl) ?_
  refine z_icmp_eq X 32 dX2_isAhead_10 (by decide) h (fun _ h => ?_) (fun _ h => ?_)
  · refine z_aload_n X 0 dX2_isAhead_32 rfl rfl ?_
    refine z_iload_n X 1 dX2_isAhead_33 rfl rfl ?_
    obtain ⟨o5, e6, h⟩ := bnd_p h
    refine z_rdV (rest := []) (q0 := 0) (ci := 3) X IR_P k_X2_ringsAt (c_X2_ringsAt l D g q_this q_cells q_froms q_tos q_rings q_pranks p1 f_size a_rings o5 e6) ql_X2_X2_ringsAt dX2_isAhead_34 [0, 1] rfl rfl rfl rfl rfl rfl ⟨Nat.le_of_ble_eq_true rfl, Nat.le_of_ble_eq_true rfl, rfl, rfl, Nat.le_of_ble_eq_true rfl, Nat.le_of_ble_eq_true rfl⟩ (Nat.le_of_ble_eq_true rfl) ?_
    refine z_aload_n X 0 dX2_isAhead_37 rfl rfl ?_
    refine z_iload_n X 2 dX2_isAhead_38 rfl rfl ?_
    obtain ⟨o7, e8, h⟩ := bnd_p h
    refine z_rdV (rest := [.int o5]) (q0 := 0) (ci := 3) X IR_P k_X2_ringsAt (c_X2_ringsAt l D g q_this q_cells q_froms q_tos q_rings q_pranks p2 f_size a_rings o7 e8) ql_X2_X2_ringsAt dX2_isAhead_39 [0, 1] rfl rfl rfl rfl rfl rfl ⟨Nat.le_of_ble_eq_true rfl, Nat.le_of_ble_eq_true rfl, rfl, rfl, Nat.le_of_ble_eq_true rfl, Nat.le_of_ble_eq_true rfl⟩ (Nat.le_of_ble_eq_true rfl) ?_
    refine z_icmp_eq X 64 dX2_isAhead_42 (by decide) h (fun _ h => ?_) (fun _ h => ?_)
    · refine z_iload_n X 1 dX2_isAhead_64 rfl rfl ?_
      refine z_iload_n X 2 dX2_isAhead_65 rfl rfl ?_
      refine z_icmp_ge X 73 dX2_isAhead_66 (by decide) h (fun _ h => ?_) (fun _ h => ?_)
      · refine z_iconst X (0 : Int32) dX2_isAhead_73 (by decide) ?_
        exact z_zretR X hQ hr dX2_isAhead_74 rfl h
      · refine z_iconst X (1 : Int32) dX2_isAhead_69 (by decide) ?_
        refine z_goto X 74 dX2_isAhead_70 (by decide) ?_
        exact z_zretR X hQ hr dX2_isAhead_74 rfl h
    · refine z_aload_n X 0 dX2_isAhead_45 rfl rfl ?_
      refine z_iload_n X 1 dX2_isAhead_46 rfl rfl ?_
      obtain ⟨o9, e10, h⟩ := bnd_p h
      refine z_rdV (rest := []) (q0 := 0) (ci := 3) X IR_P k_X2_ringsAt (c_X2_ringsAt l D g q_this q_cells q_froms q_tos q_rings q_pranks p1 f_size a_rings o9 e10) ql_X2_X2_ringsAt dX2_isAhead_47 [0, 1] rfl rfl rfl rfl rfl rfl ⟨Nat.le_of_ble_eq_true rfl, Nat.le_of_ble_eq_true rfl, rfl, rfl, Nat.le_of_ble_eq_true rfl, Nat.le_of_ble_eq_true rfl⟩ (Nat.le_of_ble_eq_true rfl) ?_
      refine z_aload_n X 0 dX2_isAhead_50 rfl rfl ?_
      refine z_iload_n X 2 dX2_isAhead_51 rfl rfl ?_
      obtain ⟨o11, e12, h⟩ := bnd_p h
      refine z_rdV (rest := [.int o9]) (q0 := 0) (ci := 3) X IR_P k_X2_ringsAt (c_X2_ringsAt l D g q_this q_cells q_froms q_tos q_rings q_pranks p2 f_size a_rings o11 e12) ql_X2_X2_ringsAt dX2_isAhead_52 [0, 1] rfl rfl rfl rfl rfl rfl ⟨Nat.le_of_ble_eq_true rfl, Nat.le_of_ble_eq_true rfl, rfl, rfl, Nat.le_of_ble_eq_true rfl, Nat.le_of_ble_eq_true rfl⟩ (Nat.le_of_ble_eq_true rfl) ?_
      refine z_icmp_le X 62 dX2_isAhead_55 (by decide) h (fun _ h => ?_) (fun _ h => ?_)
      · refine z_iconst X (0 : Int32) dX2_isAhead_62 (by decide) ?_
        exact z_zretR X hQ hr dX2_isAhead_63 rfl h
      · refine z_iconst X (1 : Int32) dX2_isAhead_58 (by decide) ?_
        refine z_goto X 63 dX2_isAhead_59 (by decide) ?_
        exact z_zretR X hQ hr dX2_isAhead_63 rfl h
  · refine z_aload_n X 0 dX2_isAhead_13 rfl rfl ?_
    refine z_iload_n X 1 dX2_isAhead_14 rfl rfl ?_
    obtain ⟨o13, e14, h⟩ := bnd_p h
    refine z_rdV (rest := []) (q0 := 0) (ci := 3) X IR_P k_X2_pranksAt (c_X2_pranksAt l D g q_this q_cells q_froms q_tos q_rings q_pranks p1 f_size a_pranks o13 e14) ql_X2_X2_pranksAt dX2_isAhead_15 [0, 2] rfl rfl rfl rfl rfl rfl ⟨Nat.le_of_ble_eq_true rfl, Nat.le_of_ble_eq_true rfl, rfl, rfl, Nat.le_of_ble_eq_true rfl, Nat.le_of_ble_eq_true rfl⟩ (Nat.le_of_ble_eq_true rfl) ?_
    refine z_aload_n X 0 dX2_isAhead_18 rfl rfl ?_
    refine z_iload_n X 2 dX2_isAhead_19 rfl rfl ?_
    obtain ⟨o15, e16, h⟩ := bnd_p h
    refine z_rdV (rest := [.int o13]) (q0 := 0) (ci := 3) X IR_P k_X2_pranksAt (c_X2_pranksAt l D g q_this q_cells q_froms q_tos q_rings q_pranks p2 f_size a_pranks o15 e16) ql_X2_X2_pranksAt dX2_isAhead_20 [0, 2] rfl rfl rfl rfl rfl rfl ⟨Nat.le_of_ble_eq_true rfl, Nat.le_of_ble_eq_true rfl, rfl, rfl, Nat.le_of_ble_eq_true rfl, Nat.le_of_ble_eq_true rfl⟩ (Nat.le_of_ble_eq_true rfl) ?_
    refine z_icmp_le X 30 dX2_isAhead_23 (by decide) h (fun _ h => ?_) (fun _ h => ?_)
    · refine z_iconst X (0 : Int32) dX2_isAhead_30 (by decide) ?_
      exact z_zretR X hQ hr dX2_isAhead_31 rfl h
    · refine z_iconst X (1 : Int32) dX2_isAhead_26 (by decide) ?_
      refine z_goto X 31 dX2_isAhead_27 (by decide) ?_
      exact z_zretR X hQ hr dX2_isAhead_31 rfl h
