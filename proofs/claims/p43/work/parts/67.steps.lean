def J_L_steps_94 (p0 : Int32) (a_bl : Nat → Int32) (r36 : Int32 → (Nat → Int32) → Option (Nat → Int32)) (r45 : Int32 → Int32 → (Nat → Int32) → Option (Nat → Int32)) (r60 : Int32 → Int32 → Int32 → Int32 → (Nat → Int32) → Option (Nat → Int32)) (t0 : Int32) (x3 : Int32) (x4 : Int32) (x6 : Int32) (a_n2 : Nat → Int32) : Option (Nat → Int32) :=
  r60 x3 x4 t0 (x6 + 1) a_n2

def L_L_steps_60 (p0 : Int32) (a_bl : Nat → Int32) (r36 : Int32 → (Nat → Int32) → Option (Nat → Int32)) (r45 : Int32 → Int32 → (Nat → Int32) → Option (Nat → Int32)) : Nat → Int32 → Int32 → Int32 → Int32 → (Nat → Int32) → Option (Nat → Int32)
  | 0, _, _, _, _, _ => none
  | _n + 1, x3, x4, x5, x6, a_n2 =>
    brn ((64 : Int32) ≤ x6) (grd (inb x4 64) (brn ((a_bl x4.toNatClampNeg) = 0) (grd (inb x4 64) (brn ((a_n2 x4.toNatClampNeg) ≤ x5) (r45 x3 (x4 + 1) a_n2) (grd (inb x4 64) (r45 (1 : Int32) (x4 + 1) (upd a_n2 x4.toNatClampNeg x5))))) (r45 x3 (x4 + 1) a_n2))) (bnd (F_L_far x4 x6) (fun o1 => brn (o1 = (1 : Int32)) (grd (inb x6 64) (J_L_steps_94 p0 a_bl (r36) (r45) (L_L_steps_60 p0 a_bl r36 r45 _n) (if ((a_n2 x6.toNatClampNeg) + (1 : Int32)) < x5 then ((a_n2 x6.toNatClampNeg) + (1 : Int32)) else x5) x3 x4 x6 a_n2)) (J_L_steps_94 p0 a_bl (r36) (r45) (L_L_steps_60 p0 a_bl r36 r45 _n) x5 x3 x4 x6 a_n2)))

def L_L_steps_45 (p0 : Int32) (a_bl : Nat → Int32) (r36 : Int32 → (Nat → Int32) → Option (Nat → Int32)) : Nat → Int32 → Int32 → (Nat → Int32) → Option (Nat → Int32)
  | 0, _, _, _ => none
  | _n + 1, x3, x4, a_n2 =>
    brn ((64 : Int32) ≤ x4) (r36 x3 a_n2) (L_L_steps_60 p0 a_bl (r36) (L_L_steps_45 p0 a_bl r36 _n) 65 x3 x4 (1000 : Int32) (0 : Int32) a_n2)

def L_L_steps_36 (p0 : Int32) (a_bl : Nat → Int32) : Nat → Int32 → (Nat → Int32) → Option (Nat → Int32)
  | 0, _, _ => none
  | _n + 1, x3, a_n2 =>
    brn (x3 = 0) (some (a_n2)) (L_L_steps_45 p0 a_bl (L_L_steps_36 p0 a_bl _n) 65 (0 : Int32) (0 : Int32) a_n2)

def J_L_steps_27 (p0 : Int32) (a_bl : Nat → Int32) (r7 : Int32 → (Nat → Int32) → Option (Nat → Int32)) (t0 : Int32) (t1 : Int32) (x3 : Int32) (a_n2 : Nat → Int32) : Option (Nat → Int32) :=
  grd (inb t1 64) (r7 (x3 + 1) (upd a_n2 t1.toNatClampNeg t0))

def L_L_steps_7 (p0 : Int32) (a_bl : Nat → Int32) : Nat → Int32 → (Nat → Int32) → Option (Nat → Int32)
  | 0, _, _ => none
  | _n + 1, x3, a_n2 =>
    brn ((64 : Int32) ≤ x3) (L_L_steps_36 p0 a_bl 66 (1 : Int32) a_n2) (brn (x3 = p0) (J_L_steps_27 p0 a_bl (L_L_steps_7 p0 a_bl _n) (0 : Int32) x3 x3 a_n2) (J_L_steps_27 p0 a_bl (L_L_steps_7 p0 a_bl _n) (1000 : Int32) x3 x3 a_n2))

def F_L_steps (p0 : Int32) (a_bl : Nat → Int32) : Option (Nat → Int32) :=
  L_L_steps_7 p0 a_bl 65 (0 : Int32) (fun _ => 0)

theorem dL_steps_0 : decode cL_steps 0 = .ok (.bipush 64, 2) := by decide +kernel
theorem dL_steps_2 : decode cL_steps 2 = .ok (.newarray .int, 2) := by decide +kernel
theorem dL_steps_4 : decode cL_steps 4 = .ok (.astore_n 2, 1) := by decide +kernel
theorem dL_steps_5 : decode cL_steps 5 = .ok (.iconst 0, 1) := by decide +kernel
theorem dL_steps_6 : decode cL_steps 6 = .ok (.istore_n 3, 1) := by decide +kernel
theorem dL_steps_7 : decode cL_steps 7 = .ok (.iload_n 3, 1) := by decide +kernel
theorem dL_steps_8 : decode cL_steps 8 = .ok (.bipush 64, 2) := by decide +kernel
theorem dL_steps_10 : decode cL_steps 10 = .ok (.if_icmp .ge 24, 3) := by decide +kernel
theorem dL_steps_13 : decode cL_steps 13 = .ok (.aload_n 2, 1) := by decide +kernel
theorem dL_steps_14 : decode cL_steps 14 = .ok (.iload_n 3, 1) := by decide +kernel
theorem dL_steps_15 : decode cL_steps 15 = .ok (.iload_n 3, 1) := by decide +kernel
theorem dL_steps_16 : decode cL_steps 16 = .ok (.iload_n 0, 1) := by decide +kernel
theorem dL_steps_17 : decode cL_steps 17 = .ok (.if_icmp .ne 7, 3) := by decide +kernel
theorem dL_steps_20 : decode cL_steps 20 = .ok (.iconst 0, 1) := by decide +kernel
theorem dL_steps_21 : decode cL_steps 21 = .ok (.goto 6, 3) := by decide +kernel
theorem dL_steps_24 : decode cL_steps 24 = .ok (.sipush 1000, 3) := by decide +kernel
theorem dL_steps_27 : decode cL_steps 27 = .ok (.iastore, 1) := by decide +kernel
theorem dL_steps_28 : decode cL_steps 28 = .ok (.iinc 3 1, 3) := by decide +kernel
theorem dL_steps_31 : decode cL_steps 31 = .ok (.goto (-24), 3) := by decide +kernel
theorem dL_steps_34 : decode cL_steps 34 = .ok (.iconst 1, 1) := by decide +kernel
theorem dL_steps_35 : decode cL_steps 35 = .ok (.istore_n 3, 1) := by decide +kernel
theorem dL_steps_36 : decode cL_steps 36 = .ok (.iload_n 3, 1) := by decide +kernel
theorem dL_steps_37 : decode cL_steps 37 = .ok (.ifCond .eq 98, 3) := by decide +kernel
theorem dL_steps_40 : decode cL_steps 40 = .ok (.iconst 0, 1) := by decide +kernel
theorem dL_steps_41 : decode cL_steps 41 = .ok (.istore_n 3, 1) := by decide +kernel
theorem dL_steps_42 : decode cL_steps 42 = .ok (.iconst 0, 1) := by decide +kernel
theorem dL_steps_43 : decode cL_steps 43 = .ok (.istore 4, 2) := by decide +kernel
theorem dL_steps_45 : decode cL_steps 45 = .ok (.iload 4, 2) := by decide +kernel
theorem dL_steps_47 : decode cL_steps 47 = .ok (.bipush 64, 2) := by decide +kernel
theorem dL_steps_49 : decode cL_steps 49 = .ok (.if_icmp .ge 83, 3) := by decide +kernel
theorem dL_steps_52 : decode cL_steps 52 = .ok (.sipush 1000, 3) := by decide +kernel
theorem dL_steps_55 : decode cL_steps 55 = .ok (.istore 5, 2) := by decide +kernel
theorem dL_steps_57 : decode cL_steps 57 = .ok (.iconst 0, 1) := by decide +kernel
theorem dL_steps_58 : decode cL_steps 58 = .ok (.istore 6, 2) := by decide +kernel
theorem dL_steps_60 : decode cL_steps 60 = .ok (.iload 6, 2) := by decide +kernel
theorem dL_steps_62 : decode cL_steps 62 = .ok (.bipush 64, 2) := by decide +kernel
theorem dL_steps_64 : decode cL_steps 64 = .ok (.if_icmp .ge 38, 3) := by decide +kernel
theorem dL_steps_67 : decode cL_steps 67 = .ok (.iload 4, 2) := by decide +kernel
theorem dL_steps_69 : decode cL_steps 69 = .ok (.iload 6, 2) := by decide +kernel
theorem dL_steps_71 : decode cL_steps 71 = .ok (.invokestatic 231, 3) := by decide +kernel
theorem dL_steps_74 : decode cL_steps 74 = .ok (.iconst 1, 1) := by decide +kernel
theorem dL_steps_75 : decode cL_steps 75 = .ok (.if_icmp .ne 17, 3) := by decide +kernel
theorem dL_steps_78 : decode cL_steps 78 = .ok (.iload 5, 2) := by decide +kernel
theorem dL_steps_80 : decode cL_steps 80 = .ok (.aload_n 2, 1) := by decide +kernel
theorem dL_steps_81 : decode cL_steps 81 = .ok (.iload 6, 2) := by decide +kernel
theorem dL_steps_83 : decode cL_steps 83 = .ok (.iaload, 1) := by decide +kernel
theorem dL_steps_84 : decode cL_steps 84 = .ok (.iconst 1, 1) := by decide +kernel
theorem dL_steps_85 : decode cL_steps 85 = .ok (.iadd, 1) := by decide +kernel
theorem dL_steps_86 : decode cL_steps 86 = .ok (.invokestatic 256, 3) := by decide +kernel
theorem dL_steps_89 : decode cL_steps 89 = .ok (.goto 5, 3) := by decide +kernel
theorem dL_steps_92 : decode cL_steps 92 = .ok (.iload 5, 2) := by decide +kernel
theorem dL_steps_94 : decode cL_steps 94 = .ok (.istore 5, 2) := by decide +kernel
theorem dL_steps_96 : decode cL_steps 96 = .ok (.iinc 6 1, 3) := by decide +kernel
theorem dL_steps_99 : decode cL_steps 99 = .ok (.goto (-39), 3) := by decide +kernel
theorem dL_steps_102 : decode cL_steps 102 = .ok (.aload_n 1, 1) := by decide +kernel
theorem dL_steps_103 : decode cL_steps 103 = .ok (.iload 4, 2) := by decide +kernel
theorem dL_steps_105 : decode cL_steps 105 = .ok (.baload, 1) := by decide +kernel
theorem dL_steps_106 : decode cL_steps 106 = .ok (.ifCond .ne 20, 3) := by decide +kernel
theorem dL_steps_109 : decode cL_steps 109 = .ok (.iload 5, 2) := by decide +kernel
theorem dL_steps_111 : decode cL_steps 111 = .ok (.aload_n 2, 1) := by decide +kernel
theorem dL_steps_112 : decode cL_steps 112 = .ok (.iload 4, 2) := by decide +kernel
theorem dL_steps_114 : decode cL_steps 114 = .ok (.iaload, 1) := by decide +kernel
theorem dL_steps_115 : decode cL_steps 115 = .ok (.if_icmp .ge 11, 3) := by decide +kernel
theorem dL_steps_118 : decode cL_steps 118 = .ok (.aload_n 2, 1) := by decide +kernel
theorem dL_steps_119 : decode cL_steps 119 = .ok (.iload 4, 2) := by decide +kernel
theorem dL_steps_121 : decode cL_steps 121 = .ok (.iload 5, 2) := by decide +kernel
theorem dL_steps_123 : decode cL_steps 123 = .ok (.iastore, 1) := by decide +kernel
theorem dL_steps_124 : decode cL_steps 124 = .ok (.iconst 1, 1) := by decide +kernel
theorem dL_steps_125 : decode cL_steps 125 = .ok (.istore_n 3, 1) := by decide +kernel
theorem dL_steps_126 : decode cL_steps 126 = .ok (.iinc 4 1, 3) := by decide +kernel
theorem dL_steps_129 : decode cL_steps 129 = .ok (.goto (-84), 3) := by decide +kernel
theorem dL_steps_132 : decode cL_steps 132 = .ok (.goto (-96), 3) := by decide +kernel
theorem dL_steps_135 : decode cL_steps 135 = .ok (.aload_n 2, 1) := by decide +kernel
theorem dL_steps_136 : decode cL_steps 136 = .ok (.areturn, 1) := by decide +kernel
theorem k_L_steps : cardS yL_steps (Cond.code yL_steps cL_steps 7 (some (.array .int))) 2 := ⟨qs_L_steps, qc_L_steps, qn_L, by decide +kernel, by decide +kernel, by decide +kernel⟩
set_option maxHeartbeats 4000000 in
set_option maxRecDepth 100000 in
theorem c_L_steps (l : Launch) (hfl : l.stackTraces = false) (ev : LEv) (D : va_G) (g : Nat → ClassId) (q_bl : Nat) (p0 : Int32) (a_bl : Nat → Int32) (o : Nat → Int32) (h : F_L_steps p0 a_bl = some o) : MO l yL_steps (Cond.code yL_steps cL_steps 7 (some (.array .int))) { frames := 2, cells := 1, slots := 64, locals := 61 } (KF ev) D g [.int p0, .ref q_bl] [(q_bl, .inl (g 3, 64, .inl a_bl))] (fun _ : Nat => True) (fun q_n2 => some (.ref q_n2)) (fun q_n2 => [(q_n2, .inl (g 0, 64, .inl o)), (q_bl, .inl (g 3, 64, .inl a_bl))]) 1 64 := by
  refine z_o_start (by decide) (Nat.le_of_ble_eq_true rfl) ?_
  intro p e s m args below meth c Q A X hr hin hK hA hQ
  refine z_lv (lv' := [(0, .int p0), (1, .ref q_bl)]) rfl ?_
  have H36 : ∀ (n : Nat) (q_n2 : Nat) (x3 : Int32) (a_n2 : Nat → Int32) (c36 s36 : Nat), c36 + 0 * n ≤ 1 → s36 + 0 * n ≤ 64 → L_L_steps_36 p0 a_bl n x3 a_n2 = some o → Z p l e { frames := 2, cells := 1, slots := 64, locals := 61 } s m args below meth c Q 7 c36 s36 (IW D A s [(q_bl, .inl (g 3, 64, .inl a_bl)), (q_n2, .inl (g 0, 64, .inl a_n2))]) 36 [(1, .ref q_bl), (2, .ref q_n2), (3, .int x3)] [] := by
    intro n
    induction n with
    | zero => intro q_n2 x3 a_n2 c36 s36 _ _ h; cases h
    | succ n36 ih36 =>
      intro q_n2 x3 a_n2 c36 s36 hc36 hs36 h
      have H45 : ∀ (n : Nat) (q_n2 : Nat) (x3 : Int32) (x4 : Int32) (a_n2 : Nat → Int32) (c45 s45 : Nat), c45 + 0 * n ≤ (c36 + 0) → s45 + 0 * n ≤ (s36 + 0) → L_L_steps_45 p0 a_bl (L_L_steps_36 p0 a_bl n36) n x3 x4 a_n2 = some o → Z p l e { frames := 2, cells := 1, slots := 64, locals := 61 } s m args below meth c Q 7 c45 s45 (IW D A s [(q_bl, .inl (g 3, 64, .inl a_bl)), (q_n2, .inl (g 0, 64, .inl a_n2))]) 45 [(1, .ref q_bl), (2, .ref q_n2), (3, .int x3), (4, .int x4)] [] := by
        intro n
        induction n with
        | zero => intro q_n2 x3 x4 a_n2 c45 s45 _ _ h; cases h
        | succ n45 ih45 =>
          intro q_n2 x3 x4 a_n2 c45 s45 hc45 hs45 h
          have H60 : ∀ (n : Nat) (q_n2 : Nat) (x3 : Int32) (x4 : Int32) (x5 : Int32) (x6 : Int32) (a_n2 : Nat → Int32) (c60 s60 : Nat), c60 + 0 * n ≤ (c45 + 0) → s60 + 0 * n ≤ (s45 + 0) → L_L_steps_60 p0 a_bl (L_L_steps_36 p0 a_bl n36) (L_L_steps_45 p0 a_bl (L_L_steps_36 p0 a_bl n36) n45) n x3 x4 x5 x6 a_n2 = some o → Z p l e { frames := 2, cells := 1, slots := 64, locals := 61 } s m args below meth c Q 7 c60 s60 (IW D A s [(q_bl, .inl (g 3, 64, .inl a_bl)), (q_n2, .inl (g 0, 64, .inl a_n2))]) 60 [(1, .ref q_bl), (2, .ref q_n2), (3, .int x3), (4, .int x4), (5, .int x5), (6, .int x6)] [] := by
            intro n
            induction n with
            | zero => intro q_n2 x3 x4 x5 x6 a_n2 c60 s60 _ _ h; cases h
            | succ n60 ih60 =>
              intro q_n2 x3 x4 x5 x6 a_n2 c60 s60 hc60 hs60 h
              have H94 : ∀ (q_n2 : Nat) (t0 : Int32) (x3 : Int32) (x4 : Int32) (x6 : Int32) (a_n2 : Nat → Int32), J_L_steps_94 p0 a_bl (L_L_steps_36 p0 a_bl n36) (L_L_steps_45 p0 a_bl (L_L_steps_36 p0 a_bl n36) n45) (L_L_steps_60 p0 a_bl (L_L_steps_36 p0 a_bl n36) (L_L_steps_45 p0 a_bl (L_L_steps_36 p0 a_bl n36) n45) n60) t0 x3 x4 x6 a_n2 = some o → Z p l e { frames := 2, cells := 1, slots := 64, locals := 61 } s m args below meth c Q 7 (c60 + 0) (s60 + 0) (IW D A s [(q_bl, .inl (g 3, 64, .inl a_bl)), (q_n2, .inl (g 0, 64, .inl a_n2))]) 94 [(1, .ref q_bl), (2, .ref q_n2), (3, .int x3), (4, .int x4), (6, .int x6)] [.int t0] := by
                intro q_n2 t0 x3 x4 x6 a_n2 h
                refine z_istore X [(5, .int t0), (1, .ref q_bl), (2, .ref q_n2), (3, .int x3), (4, .int x4), (6, .int x6)] dL_steps_94 (by decide) rfl ?_
                refine z_iinc X 5 [(6, .int (x6 + 1)), (5, .int t0), (1, .ref q_bl), (2, .ref q_n2), (3, .int x3), (4, .int x4)] dL_steps_96 rfl rfl (by decide) rfl ?_
                refine z_goto X 60 dL_steps_99 (by decide) ?_
                refine z_sub (lv' := [(1, .ref q_bl), (2, .ref q_n2), (3, .int x3), (4, .int x4), (5, .int t0), (6, .int (x6 + 1))]) [2, 3, 4, 5, 1, 0] rfl ?_
                exact ih60 q_n2 x3 x4 t0 (x6 + 1) a_n2 _ _ (by omega) (by omega) h
              refine z_iload X 5 dL_steps_60 rfl ?_
              refine z_bipush X (64 : Int32) dL_steps_62 (by decide) ?_
              refine z_icmp_ge X 102 dL_steps_64 (by decide) h (fun _ h => ?_) (fun _ h => ?_)
              · refine z_widen (k := (c45 + 0)) (n := (s45 + 0)) (by omega) (by omega) ?_
                refine z_aload_n X 0 dL_steps_102 rfl rfl ?_
                refine z_iload X 3 dL_steps_103 rfl ?_
                refine z_zald (q0 := 0) X IW_P dL_steps_105 rfl h (fun h => ?_)
                refine z_if_ne X 126 dL_steps_106 (by decide) h (fun _ h => ?_) (fun _ h => ?_)
                · refine z_iload X 4 dL_steps_109 rfl ?_
                  refine z_aload_n X 1 dL_steps_111 rfl rfl ?_
                  refine z_iload X 3 dL_steps_112 rfl ?_
                  refine z_iald (q0 := 1) X IW_P dL_steps_114 rfl h (fun h => ?_)
                  refine z_icmp_ge X 126 dL_steps_115 (by decide) h (fun _ h => ?_) (fun _ h => ?_)
                  · refine z_iinc X 3 [(4, .int (x4 + 1)), (1, .ref q_bl), (2, .ref q_n2), (3, .int x3), (5, .int x5), (6, .int x6)] dL_steps_126 rfl rfl (by decide) rfl ?_
                    refine z_goto X 45 dL_steps_129 (by decide) ?_
                    refine z_sub (lv' := [(1, .ref q_bl), (2, .ref q_n2), (3, .int x3), (4, .int (x4 + 1))]) [1, 2, 3, 0] rfl ?_
                    exact ih45 q_n2 x3 (x4 + 1) a_n2 _ _ (by omega) (by omega) h
                  · refine z_aload_n X 1 dL_steps_118 rfl rfl ?_
                    refine z_iload X 3 dL_steps_119 rfl ?_
                    refine z_iload X 4 dL_steps_121 rfl ?_
                    refine z_iast (q0 := 1) (ws' := [(q_bl, .inl (g 3, 64, .inl a_bl)), (q_n2, .inl (g 0, 64, .inl (upd a_n2 x4.toNatClampNeg x5)))]) X dL_steps_123 rfl h rfl (fun h => ?_)
                    refine z_iconst X (1 : Int32) dL_steps_124 (by decide) ?_
                    refine z_istore_n X [(3, .int (1 : Int32)), (1, .ref q_bl), (2, .ref q_n2), (4, .int x4), (5, .int x5), (6, .int x6)] dL_steps_125 rfl (by decide) rfl ?_
                    refine z_iinc X 3 [(4, .int (x4 + 1)), (3, .int (1 : Int32)), (1, .ref q_bl), (2, .ref q_n2), (5, .int x5), (6, .int x6)] dL_steps_126 rfl rfl (by decide) rfl ?_
                    refine z_goto X 45 dL_steps_129 (by decide) ?_
                    refine z_sub (lv' := [(1, .ref q_bl), (2, .ref q_n2), (3, .int (1 : Int32)), (4, .int (x4 + 1))]) [2, 3, 1, 0] rfl ?_
                    exact ih45 q_n2 (1 : Int32) (x4 + 1) (upd a_n2 x4.toNatClampNeg x5) _ _ (by omega) (by omega) h
                · refine z_iinc X 3 [(4, .int (x4 + 1)), (1, .ref q_bl), (2, .ref q_n2), (3, .int x3), (5, .int x5), (6, .int x6)] dL_steps_126 rfl rfl (by decide) rfl ?_
                  refine z_goto X 45 dL_steps_129 (by decide) ?_
                  refine z_sub (lv' := [(1, .ref q_bl), (2, .ref q_n2), (3, .int x3), (4, .int (x4 + 1))]) [1, 2, 3, 0] rfl ?_
                  exact ih45 q_n2 x3 (x4 + 1) a_n2 _ _ (by omega) (by omega) h
              · refine z_iload X 3 dL_steps_67 rfl ?_
                refine z_iload X 5 dL_steps_69 rfl ?_
                obtain ⟨o1, e2, h⟩ := bnd_p h
                have f3 : bkc [(q_bl, .inl (g 3, 64, .inl a_bl)), (q_n2, .inl (g 0, 64, .inl a_n2))] [] ∧ bk [(q_bl, .inl (g 3, 64, .inl a_bl)), (q_n2, .inl (g 0, 64, .inl a_n2))] [(q_bl, .inl (g 3, 64, .inl a_bl)), (q_n2, .inl (g 0, 64, .inl a_n2))] [] [] := ⟨bkc_nil, bk_nil⟩
                refine z_gS (rest := []) (ws' := [(q_bl, .inl (g 3, 64, .inl a_bl)), (q_n2, .inl (g 0, 64, .inl a_n2))]) X (KF_ok ev) (kc_of (KF_ok ev) (fun _ _ _ q => q) hK hA f3.1) hA k_L_far (c_L_far l hfl ev D g x4 x6 o1 e2) ql_L_L_far dL_steps_71 f3.1 f3.2 rfl rfl ⟨Nat.le_of_ble_eq_true rfl, Nat.le_of_ble_eq_true rfl, rfl, rfl, (Nat.le_trans (m := 1) (by first | exact Nat.le_of_ble_eq_true rfl | omega) (Nat.le_of_ble_eq_true rfl)), (Nat.le_trans (m := 64) (by first | exact Nat.le_of_ble_eq_true rfl | omega) (Nat.le_of_ble_eq_true rfl))⟩ (Nat.le_of_ble_eq_true rfl) ?_
                refine z_iconst X (1 : Int32) dL_steps_74 (by decide) ?_
                refine z_icmp_ne X 92 dL_steps_75 (by decide) h (fun _ h => ?_) (fun _ h => ?_)
                · refine z_iload X 4 dL_steps_78 rfl ?_
                  refine z_aload_n X 1 dL_steps_80 rfl rfl ?_
                  refine z_iload X 5 dL_steps_81 rfl ?_
                  refine z_iald (q0 := 1) X IW_P dL_steps_83 rfl h (fun h => ?_)
                  refine z_iconst X (1 : Int32) dL_steps_84 (by decide) ?_
                  refine z_iadd X dL_steps_85 ?_
                  refine z_mmin X ql_L_mmin dL_steps_86 (Nat.le_of_ble_eq_true rfl) (Nat.le_of_ble_eq_true rfl) (Nat.le_trans (m := 1) (by first | exact Nat.le_of_ble_eq_true rfl | omega) (Nat.le_of_ble_eq_true rfl)) (Nat.le_trans (m := 64) (by first | exact Nat.le_of_ble_eq_true rfl | omega) (Nat.le_of_ble_eq_true rfl)) ?_
                  refine z_goto X 94 dL_steps_89 (by decide) ?_
                  refine z_widen (k := (c60 + 0)) (n := (s60 + 0)) (by first | exact Nat.le_of_ble_eq_true rfl | omega) (by first | exact Nat.le_of_ble_eq_true rfl | omega) ?_
                  refine z_sub (lv' := [(1, .ref q_bl), (2, .ref q_n2), (3, .int x3), (4, .int x4), (6, .int x6)]) [0, 1, 2, 3, 5] rfl ?_
                  exact H94 q_n2 (if ((a_n2 x6.toNatClampNeg) + (1 : Int32)) < x5 then ((a_n2 x6.toNatClampNeg) + (1 : Int32)) else x5) x3 x4 x6 a_n2 h
                · refine z_iload X 4 dL_steps_92 rfl ?_
                  refine z_widen (k := (c60 + 0)) (n := (s60 + 0)) (by first | exact Nat.le_of_ble_eq_true rfl | omega) (by first | exact Nat.le_of_ble_eq_true rfl | omega) ?_
                  refine z_sub (lv' := [(1, .ref q_bl), (2, .ref q_n2), (3, .int x3), (4, .int x4), (6, .int x6)]) [0, 1, 2, 3, 5] rfl ?_
                  exact H94 q_n2 x5 x3 x4 x6 a_n2 h
          refine z_iload X 3 dL_steps_45 rfl ?_
          refine z_bipush X (64 : Int32) dL_steps_47 (by decide) ?_
          refine z_icmp_ge X 132 dL_steps_49 (by decide) h (fun _ h => ?_) (fun _ h => ?_)
          · refine z_widen (k := (c36 + 0)) (n := (s36 + 0)) (by omega) (by omega) ?_
            refine z_goto X 36 dL_steps_132 (by decide) ?_
            refine z_sub (lv' := [(1, .ref q_bl), (2, .ref q_n2), (3, .int x3)]) [0, 1, 2] rfl ?_
            exact ih36 q_n2 x3 a_n2 _ _ (by omega) (by omega) h
          · refine z_sipush X (1000 : Int32) dL_steps_52 (by decide) ?_
            refine z_istore X [(5, .int (1000 : Int32)), (1, .ref q_bl), (2, .ref q_n2), (3, .int x3), (4, .int x4)] dL_steps_55 (by decide) rfl ?_
            refine z_iconst X (0 : Int32) dL_steps_57 (by decide) ?_
            refine z_istore X [(6, .int (0 : Int32)), (5, .int (1000 : Int32)), (1, .ref q_bl), (2, .ref q_n2), (3, .int x3), (4, .int x4)] dL_steps_58 (by decide) rfl ?_
            refine z_sub (lv' := [(1, .ref q_bl), (2, .ref q_n2), (3, .int x3), (4, .int x4), (5, .int (1000 : Int32)), (6, .int (0 : Int32))]) [2, 3, 4, 5, 1, 0] rfl ?_
            exact H60 65 q_n2 x3 x4 (1000 : Int32) (0 : Int32) a_n2 _ _ (by first | exact Nat.le_of_ble_eq_true rfl | omega) (by first | exact Nat.le_of_ble_eq_true rfl | omega) h
      refine z_iload_n X 2 dL_steps_36 rfl rfl ?_
      refine z_if_eq X 135 dL_steps_37 (by decide) h (fun _ h => ?_) (fun _ h => ?_)
      · refine z_widen (k := 1) (n := 64) (by omega) (by omega) ?_
        refine z_aload_n X 1 dL_steps_135 rfl rfl ?_
        refine z_drop (ws' := [(q_n2, .inl (g 0, 64, .inl a_n2)), (q_bl, .inl (g 3, 64, .inl a_bl))]) (wr := []) (perm_of (n := 2) (E := [(q_bl, .inl (g 3, 64, .inl a_bl)), (q_n2, .inl (g 0, 64, .inl a_n2))]) (wc := [(q_n2, .inl (g 0, 64, .inl a_n2)), (q_bl, .inl (g 3, 64, .inl a_bl))]) (wr := []) [1, 0] [] rfl rfl rfl (by decide +kernel)) ?_
        cases h
        exact z_oaret X hQ (by first | exact Nat.le_of_ble_eq_true rfl | omega) (by first | exact Nat.le_of_ble_eq_true rfl | omega) hr (Or.inr ⟨_, rfl⟩) dL_steps_136 q_n2 trivial rfl (List.Perm.refl _)
      · refine z_iconst X (0 : Int32) dL_steps_40 (by decide) ?_
        refine z_istore_n X [(3, .int (0 : Int32)), (1, .ref q_bl), (2, .ref q_n2)] dL_steps_41 rfl (by decide) rfl ?_
        refine z_iconst X (0 : Int32) dL_steps_42 (by decide) ?_
        refine z_istore X [(4, .int (0 : Int32)), (3, .int (0 : Int32)), (1, .ref q_bl), (2, .ref q_n2)] dL_steps_43 (by decide) rfl ?_
        refine z_sub (lv' := [(1, .ref q_bl), (2, .ref q_n2), (3, .int (0 : Int32)), (4, .int (0 : Int32))]) [2, 3, 1, 0] rfl ?_
        exact H45 65 q_n2 (0 : Int32) (0 : Int32) a_n2 _ _ (by first | exact Nat.le_of_ble_eq_true rfl | omega) (by first | exact Nat.le_of_ble_eq_true rfl | omega) h
  have H7 : ∀ (n : Nat) (q_n2 : Nat) (x3 : Int32) (a_n2 : Nat → Int32) (c7 s7 : Nat), c7 + 0 * n ≤ 1 → s7 + 0 * n ≤ 64 → L_L_steps_7 p0 a_bl n x3 a_n2 = some o → Z p l e { frames := 2, cells := 1, slots := 64, locals := 61 } s m args below meth c Q 7 c7 s7 (IW D A s [(q_bl, .inl (g 3, 64, .inl a_bl)), (q_n2, .inl (g 0, 64, .inl a_n2))]) 7 [(0, .int p0), (1, .ref q_bl), (2, .ref q_n2), (3, .int x3)] [] := by
    intro n
    induction n with
    | zero => intro q_n2 x3 a_n2 c7 s7 _ _ h; cases h
    | succ n7 ih7 =>
      intro q_n2 x3 a_n2 c7 s7 hc7 hs7 h
      have H27 : ∀ (q_n2 : Nat) (t0 : Int32) (t1 : Int32) (x3 : Int32) (a_n2 : Nat → Int32), J_L_steps_27 p0 a_bl (L_L_steps_7 p0 a_bl n7) t0 t1 x3 a_n2 = some o → Z p l e { frames := 2, cells := 1, slots := 64, locals := 61 } s m args below meth c Q 7 (c7 + 0) (s7 + 0) (IW D A s [(q_bl, .inl (g 3, 64, .inl a_bl)), (q_n2, .inl (g 0, 64, .inl a_n2))]) 27 [(0, .int p0), (1, .ref q_bl), (2, .ref q_n2), (3, .int x3)] [.int t0, .int t1, .ref q_n2] := by
        intro q_n2 t0 t1 x3 a_n2 h
        refine z_iast (q0 := 1) (ws' := [(q_bl, .inl (g 3, 64, .inl a_bl)), (q_n2, .inl (g 0, 64, .inl (upd a_n2 t1.toNatClampNeg t0)))]) X dL_steps_27 rfl h rfl (fun h => ?_)
        refine z_iinc X 3 [(3, .int (x3 + 1)), (0, .int p0), (1, .ref q_bl), (2, .ref q_n2)] dL_steps_28 rfl rfl (by decide) rfl ?_
        refine z_goto X 7 dL_steps_31 (by decide) ?_
        refine z_sub (lv' := [(0, .int p0), (1, .ref q_bl), (2, .ref q_n2), (3, .int (x3 + 1))]) [1, 2, 3, 0] rfl ?_
        exact ih7 q_n2 (x3 + 1) (upd a_n2 t1.toNatClampNeg t0) _ _ (by omega) (by omega) h
      refine z_iload_n X 3 dL_steps_7 rfl rfl ?_
      refine z_bipush X (64 : Int32) dL_steps_8 (by decide) ?_
      refine z_icmp_ge X 34 dL_steps_10 (by decide) h (fun _ h => ?_) (fun _ h => ?_)
      · refine z_widen (k := 1) (n := 64) (by omega) (by omega) ?_
        refine z_iconst X (1 : Int32) dL_steps_34 (by decide) ?_
        refine z_istore_n X [(3, .int (1 : Int32)), (0, .int p0), (1, .ref q_bl), (2, .ref q_n2)] dL_steps_35 rfl (by decide) rfl ?_
        refine z_sub (lv' := [(1, .ref q_bl), (2, .ref q_n2), (3, .int (1 : Int32))]) [2, 3, 0] rfl ?_
        exact H36 66 q_n2 (1 : Int32) a_n2 _ _ (by first | exact Nat.le_of_ble_eq_true rfl | omega) (by first | exact Nat.le_of_ble_eq_true rfl | omega) h
      · refine z_aload_n X 2 dL_steps_13 rfl rfl ?_
        refine z_iload_n X 3 dL_steps_14 rfl rfl ?_
        refine z_iload_n X 3 dL_steps_15 rfl rfl ?_
        refine z_iload_n X 0 dL_steps_16 rfl rfl ?_
        refine z_icmp_ne X 24 dL_steps_17 (by decide) h (fun _ h => ?_) (fun _ h => ?_)
        · refine z_iconst X (0 : Int32) dL_steps_20 (by decide) ?_
          refine z_goto X 27 dL_steps_21 (by decide) ?_
          refine z_widen (k := (c7 + 0)) (n := (s7 + 0)) (by first | exact Nat.le_of_ble_eq_true rfl | omega) (by first | exact Nat.le_of_ble_eq_true rfl | omega) ?_
          exact H27 q_n2 (0 : Int32) x3 x3 a_n2 h
        · refine z_sipush X (1000 : Int32) dL_steps_24 (by decide) ?_
          refine z_widen (k := (c7 + 0)) (n := (s7 + 0)) (by first | exact Nat.le_of_ble_eq_true rfl | omega) (by first | exact Nat.le_of_ble_eq_true rfl | omega) ?_
          exact H27 q_n2 (1000 : Int32) x3 x3 a_n2 h
  refine z_bipush X (64 : Int32) dL_steps_0 (by decide) ?_
  refine z_newa (atype := .int) (a0 := (64, .inl (fun _ => 0))) (ty := .int) 0 X hA qa_int rfl rfl (fun _ _ h => h) (fun _ => rfl) (by decide) (by decide) (Nat.le_of_ble_eq_true rfl) (Nat.le_trans (m := 1) (by first | exact Nat.le_of_ble_eq_true rfl | omega) (Nat.le_of_ble_eq_true rfl)) (Nat.le_trans (m := 64) (by first | exact Nat.le_of_ble_eq_true rfl | omega) (Nat.le_of_ble_eq_true rfl)) dL_steps_2 (fun q_n2 => ?_)
  refine z_perm (ws' := [(q_n2, .inl (g 0, 64, .inl (fun _ => 0))), (q_bl, .inl (g 3, 64, .inl a_bl))]) List.perm_append_comm ?_
  refine z_astore_n X [(2, .ref q_n2), (0, .int p0), (1, .ref q_bl)] dL_steps_4 rfl (by decide) rfl ?_
  refine z_iconst X (0 : Int32) dL_steps_5 (by decide) ?_
  refine z_istore_n X [(3, .int (0 : Int32)), (2, .ref q_n2), (0, .int p0), (1, .ref q_bl)] dL_steps_6 rfl (by decide) rfl ?_
  refine z_drop (ws' := [(q_bl, .inl (g 3, 64, .inl a_bl)), (q_n2, .inl (g 0, 64, .inl (fun _ => 0)))]) (wr := []) (perm_of (n := 2) (E := [(q_n2, .inl (g 0, 64, .inl (fun _ => 0))), (q_bl, .inl (g 3, 64, .inl a_bl))]) (wc := [(q_bl, .inl (g 3, 64, .inl a_bl)), (q_n2, .inl (g 0, 64, .inl (fun _ => 0)))]) (wr := []) [1, 0] [] rfl rfl rfl (by decide +kernel)) ?_
  refine z_sub (lv' := [(0, .int p0), (1, .ref q_bl), (2, .ref q_n2), (3, .int (0 : Int32))]) [2, 3, 1, 0] rfl ?_
  exact H7 65 q_n2 (0 : Int32) (fun _ => 0) _ _ (by first | exact Nat.le_of_ble_eq_true rfl | omega) (by first | exact Nat.le_of_ble_eq_true rfl | omega) h
