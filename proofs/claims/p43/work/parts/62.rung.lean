def J_L_rung_336 (L : Nat) (xs : Nat → Int32) (x : XVal) (x2 : Int32) : Option (Int32) :=
  bnd (F_L_heard x2 (0 : Int32) (0 : Int32) x) (fun o7 => brn (o7 = ((-11) : Int32)) (some ((1 : Int32))) (none))

def J_L_rung_263 (L : Nat) (xs : Nat → Int32) (x : XVal) (x2 : Int32) : Option (Int32) :=
  bnd (F_L_classOf x2 (24 : Int32) (10 : Int32) (10 : Int32) x) (fun o4 => brn (o4 = ((-11) : Int32)) (brn (x2 = 0) (J_L_rung_336 L xs x x2) (bnd (F_L_classOf (0 : Int32) (24 : Int32) (1 : Int32) (0 : Int32) x) (fun o10 => brn (o10 = ((-12) : Int32)) (bnd (F_L_echo (0 : Int32) x2 (10 : Int32) x) (fun o13 => brn (o13 = ((-11) : Int32)) (bnd (F_L_echo (0 : Int32) (0 : Int32) (10 : Int32) x) (fun o16 => brn (o16 = ((-12) : Int32)) (bnd (F_L_heard (0 : Int32) (10 : Int32) (0 : Int32) x) (fun o19 => brn (o19 = ((-12) : Int32)) (J_L_rung_336 L xs x x2) (none))) (none))) (none))) (none)))) (none))

def J_L_rung_252 (L : Nat) (xs : Nat → Int32) (x : XVal) (r8 : Int32 → Int32 → Option (Int32)) (t0 : Int32) (t1 : Int32) (x2 : Int32) (x3 : Int32) : Option (Int32) :=
  brn (t1 = t0) (r8 x2 (x3 + 1)) (none)

def J_L_rung_227 (L : Nat) (xs : Nat → Int32) (x : XVal) (r8 : Int32 → Int32 → Option (Int32)) (t0 : Int32) (t1 : Int32) (x2 : Int32) (x3 : Int32) (x5 : Int32) (x7 : Int32) (x8 : Int32) (x9 : Int32) (x10 : Int32) : Option (Int32) :=
  brn (t1 = t0) (bnd (F_L_heard x5 x7 x8 x) (fun o28 => brn (x9 = 0) (J_L_rung_252 L xs x (r8) ((-12) : Int32) o28 x2 x3) (J_L_rung_252 L xs x (r8) x10 o28 x2 x3))) (none)

def J_L_rung_182 (L : Nat) (xs : Nat → Int32) (x : XVal) (r8 : Int32 → Int32 → Option (Int32)) (r95 : Int32 → Int32 → Int32 → Int32 → Int32 → Int32 → Int32 → Int32 → Int32 → Option (Int32)) (t0 : Int32) (t1 : Int32) (x2 : Int32) (x3 : Int32) (x5 : Int32) (x6 : Int32) (x7 : Int32) (x8 : Int32) (x9 : Int32) (x10 : Int32) (x11 : Int32) : Option (Int32) :=
  brn (t1 = t0) (r95 x2 x3 x5 x6 x7 x8 x9 x10 (x11 + 1)) (none)

def J_L_rung_157 (L : Nat) (xs : Nat → Int32) (x : XVal) (r8 : Int32 → Int32 → Option (Int32)) (r95 : Int32 → Int32 → Int32 → Int32 → Int32 → Int32 → Int32 → Int32 → Int32 → Option (Int32)) (t0 : Int32) (t1 : Int32) (x2 : Int32) (x3 : Int32) (x5 : Int32) (x6 : Int32) (x7 : Int32) (x8 : Int32) (x9 : Int32) (x11 : Int32) (x12 : Int32) (x13 : Int32) : Option (Int32) :=
  bnd (F_L_echo x5 x11 x7 x) (fun o46 => brn (x12 = 0) (J_L_rung_182 L xs x (r8) (r95) ((-13) : Int32) o46 x2 x3 x5 x6 x7 x8 x9 (t1 + t0) x11) (J_L_rung_182 L xs x (r8) (r95) x13 o46 x2 x3 x5 x6 x7 x8 x9 (t1 + t0) x11))

def J_L_rung_156 (L : Nat) (xs : Nat → Int32) (x : XVal) (r8 : Int32 → Int32 → Option (Int32)) (r95 : Int32 → Int32 → Int32 → Int32 → Int32 → Int32 → Int32 → Int32 → Int32 → Option (Int32)) (t0 : Int32) (x2 : Int32) (x3 : Int32) (x5 : Int32) (x6 : Int32) (x7 : Int32) (x8 : Int32) (x9 : Int32) (x11 : Int32) (x12 : Int32) (x13 : Int32) : Option (Int32) :=
  J_L_rung_157 L xs x (r8) (r95) (0 : Int32) t0 x2 x3 x5 x6 x7 x8 x9 x11 x12 x13

def L_L_rung_95 (L : Nat) (xs : Nat → Int32) (x : XVal) (r8 : Int32 → Int32 → Option (Int32)) : Nat → Int32 → Int32 → Int32 → Int32 → Int32 → Int32 → Int32 → Int32 → Int32 → Option (Int32)
  | 0, _, _, _, _, _, _, _, _, _ => none
  | _n + 1, x2, x3, x5, x6, x7, x8, x9, x10, x11 =>
    brn (x2 ≤ x11) (bnd (F_L_classOf x5 x6 x7 x8 x) (fun o25 => brn (x9 = 0) (J_L_rung_227 L xs x (r8) ((-12) : Int32) o25 x2 x3 x5 x7 x8 x9 x10) (bnd (F_L_kind x5 x6 x7 x8 x) (fun o31 => J_L_rung_227 L xs x (r8) o31 o25 x2 x3 x5 x7 x8 x9 x10)))) (bnd (F_L_areInHall x5 x11 x) (fun o34 => bnd (F_L_of x5 (0 : Int32) x) (fun o37 => bnd (F_L_of x11 (0 : Int32) x) (fun o40 => bnd (F_L_far o37 o40) (fun o43 => brn (o34 = 0) (J_L_rung_156 L xs x (r8) (L_L_rung_95 L xs x r8 _n) x10 x2 x3 x5 x6 x7 x8 x9 x11 o34 (if (0 : Int32) < (x7 - o43) then (x7 - o43) else (0 : Int32))) (brn (((if (0 : Int32) < (x7 - o43) then (x7 - o43) else (0 : Int32)) + x8) ≤ 0) (J_L_rung_156 L xs x (r8) (L_L_rung_95 L xs x r8 _n) x10 x2 x3 x5 x6 x7 x8 x9 x11 o34 (if (0 : Int32) < (x7 - o43) then (x7 - o43) else (0 : Int32))) (J_L_rung_157 L xs x (r8) (L_L_rung_95 L xs x r8 _n) (1 : Int32) x10 x2 x3 x5 x6 x7 x8 x9 x11 o34 (if (0 : Int32) < (x7 - o43) then (x7 - o43) else (0 : Int32)))))))))

def J_L_rung_87 (L : Nat) (xs : Nat → Int32) (x : XVal) (r8 : Int32 → Int32 → Option (Int32)) (t0 : Int32) (x2 : Int32) (x3 : Int32) (x5 : Int32) (x6 : Int32) (x7 : Int32) (x8 : Int32) : Option (Int32) :=
  L_L_rung_95 L xs x (r8) 11 x2 x3 x5 x6 x7 x8 t0 (1 : Int32) (0 : Int32)

def J_L_rung_71 (L : Nat) (xs : Nat → Int32) (x : XVal) (r8 : Int32 → Int32 → Option (Int32)) (t0 : Int32) (t1 : Int32) (x2 : Int32) (x3 : Int32) (x5 : Int32) (x6 : Int32) (x7 : Int32) : Option (Int32) :=
  grd (¬ t0 = 0) (brn ((x7 + (t1 - t1 / t0 * t0)) ≤ 0) (J_L_rung_87 L xs x (r8) (0 : Int32) x2 x3 x5 x6 x7 (t1 - t1 / t0 * t0)) (J_L_rung_87 L xs x (r8) (1 : Int32) x2 x3 x5 x6 x7 (t1 - t1 / t0 * t0)))

def L_L_rung_8 (L : Nat) (xs : Nat → Int32) (x : XVal) : Nat → Int32 → Int32 → Option (Int32)
  | 0, _, _ => none
  | _n + 1, x2, x3 =>
    brn ((5 : Int32) ≤ x3) (J_L_rung_263 L xs x x2) (brn (x2 ≤ 0) (J_L_rung_263 L xs x x2) (bnd (F_L_cell L xs ((24 : Int32) + x3)) (fun o22 => grd (¬ x2 = 0) (brn ((x3 - x3 / (2 : Int32) * (2 : Int32)) = 0) (J_L_rung_71 L xs x (L_L_rung_8 L xs x _n) (10 : Int32) (ushr (ushr o22 (1 : Int32)) (13 : Int32)) x2 x3 ((ushr o22 (1 : Int32)) - (ushr o22 (1 : Int32)) / x2 * x2) ((ushr (ushr o22 (1 : Int32)) (4 : Int32)) - (ushr (ushr o22 (1 : Int32)) (4 : Int32)) / (24 : Int32) * (24 : Int32)) ((ushr (ushr o22 (1 : Int32)) (9 : Int32)) - (ushr (ushr o22 (1 : Int32)) (9 : Int32)) / (10 : Int32) * (10 : Int32))) (J_L_rung_71 L xs x (L_L_rung_8 L xs x _n) (2 : Int32) (ushr (ushr o22 (1 : Int32)) (13 : Int32)) x2 x3 ((ushr o22 (1 : Int32)) - (ushr o22 (1 : Int32)) / x2 * x2) ((ushr (ushr o22 (1 : Int32)) (4 : Int32)) - (ushr (ushr o22 (1 : Int32)) (4 : Int32)) / (24 : Int32) * (24 : Int32)) ((ushr (ushr o22 (1 : Int32)) (9 : Int32)) - (ushr (ushr o22 (1 : Int32)) (9 : Int32)) / (10 : Int32) * (10 : Int32)))))))

def F_L_rung (L : Nat) (xs : Nat → Int32) (x : XVal) : Option (Int32) :=
  bnd (G_account (2 : Int32) x) (fun o1 => grd (o1.1 = 0) (L_L_rung_8 L xs x 6 o1.2.1 (0 : Int32)))

theorem dL_rung_0 : decode cL_rung 0 = .ok (.aload_n 1, 1) := by decide +kernel
theorem dL_rung_1 : decode cL_rung 1 = .ok (.iconst 2, 1) := by decide +kernel
theorem dL_rung_2 : decode cL_rung 2 = .ok (.invokevirtual 162, 3) := by decide +kernel
theorem dL_rung_5 : decode cL_rung 5 = .ok (.istore_n 2, 1) := by decide +kernel
theorem dL_rung_6 : decode cL_rung 6 = .ok (.iconst 0, 1) := by decide +kernel
theorem dL_rung_7 : decode cL_rung 7 = .ok (.istore_n 3, 1) := by decide +kernel
theorem dL_rung_8 : decode cL_rung 8 = .ok (.iload_n 3, 1) := by decide +kernel
theorem dL_rung_9 : decode cL_rung 9 = .ok (.iconst 5, 1) := by decide +kernel
theorem dL_rung_10 : decode cL_rung 10 = .ok (.if_icmp .ge 253, 3) := by decide +kernel
theorem dL_rung_13 : decode cL_rung 13 = .ok (.iload_n 2, 1) := by decide +kernel
theorem dL_rung_14 : decode cL_rung 14 = .ok (.ifCond .le 249, 3) := by decide +kernel
theorem dL_rung_17 : decode cL_rung 17 = .ok (.aload_n 0, 1) := by decide +kernel
theorem dL_rung_18 : decode cL_rung 18 = .ok (.bipush 24, 2) := by decide +kernel
theorem dL_rung_20 : decode cL_rung 20 = .ok (.iload_n 3, 1) := by decide +kernel
theorem dL_rung_21 : decode cL_rung 21 = .ok (.iadd, 1) := by decide +kernel
theorem dL_rung_22 : decode cL_rung 22 = .ok (.invokestatic 145, 3) := by decide +kernel
theorem dL_rung_25 : decode cL_rung 25 = .ok (.iconst 1, 1) := by decide +kernel
theorem dL_rung_26 : decode cL_rung 26 = .ok (.iushr, 1) := by decide +kernel
theorem dL_rung_27 : decode cL_rung 27 = .ok (.istore 4, 2) := by decide +kernel
theorem dL_rung_29 : decode cL_rung 29 = .ok (.iload 4, 2) := by decide +kernel
theorem dL_rung_31 : decode cL_rung 31 = .ok (.iload_n 2, 1) := by decide +kernel
theorem dL_rung_32 : decode cL_rung 32 = .ok (.irem, 1) := by decide +kernel
theorem dL_rung_33 : decode cL_rung 33 = .ok (.istore 5, 2) := by decide +kernel
theorem dL_rung_35 : decode cL_rung 35 = .ok (.iload 4, 2) := by decide +kernel
theorem dL_rung_37 : decode cL_rung 37 = .ok (.iconst 4, 1) := by decide +kernel
theorem dL_rung_38 : decode cL_rung 38 = .ok (.iushr, 1) := by decide +kernel
theorem dL_rung_39 : decode cL_rung 39 = .ok (.bipush 24, 2) := by decide +kernel
theorem dL_rung_41 : decode cL_rung 41 = .ok (.irem, 1) := by decide +kernel
theorem dL_rung_42 : decode cL_rung 42 = .ok (.istore 6, 2) := by decide +kernel
theorem dL_rung_44 : decode cL_rung 44 = .ok (.iload 4, 2) := by decide +kernel
theorem dL_rung_46 : decode cL_rung 46 = .ok (.bipush 9, 2) := by decide +kernel
theorem dL_rung_48 : decode cL_rung 48 = .ok (.iushr, 1) := by decide +kernel
theorem dL_rung_49 : decode cL_rung 49 = .ok (.bipush 10, 2) := by decide +kernel
theorem dL_rung_51 : decode cL_rung 51 = .ok (.irem, 1) := by decide +kernel
theorem dL_rung_52 : decode cL_rung 52 = .ok (.istore 7, 2) := by decide +kernel
theorem dL_rung_54 : decode cL_rung 54 = .ok (.iload 4, 2) := by decide +kernel
theorem dL_rung_56 : decode cL_rung 56 = .ok (.bipush 13, 2) := by decide +kernel
theorem dL_rung_58 : decode cL_rung 58 = .ok (.iushr, 1) := by decide +kernel
theorem dL_rung_59 : decode cL_rung 59 = .ok (.iload_n 3, 1) := by decide +kernel
theorem dL_rung_60 : decode cL_rung 60 = .ok (.iconst 2, 1) := by decide +kernel
theorem dL_rung_61 : decode cL_rung 61 = .ok (.irem, 1) := by decide +kernel
theorem dL_rung_62 : decode cL_rung 62 = .ok (.ifCond .ne 8, 3) := by decide +kernel
theorem dL_rung_65 : decode cL_rung 65 = .ok (.bipush 10, 2) := by decide +kernel
theorem dL_rung_67 : decode cL_rung 67 = .ok (.goto 4, 3) := by decide +kernel
theorem dL_rung_70 : decode cL_rung 70 = .ok (.iconst 2, 1) := by decide +kernel
theorem dL_rung_71 : decode cL_rung 71 = .ok (.irem, 1) := by decide +kernel
theorem dL_rung_72 : decode cL_rung 72 = .ok (.istore 8, 2) := by decide +kernel
theorem dL_rung_74 : decode cL_rung 74 = .ok (.iload 7, 2) := by decide +kernel
theorem dL_rung_76 : decode cL_rung 76 = .ok (.iload 8, 2) := by decide +kernel
theorem dL_rung_78 : decode cL_rung 78 = .ok (.iadd, 1) := by decide +kernel
theorem dL_rung_79 : decode cL_rung 79 = .ok (.ifCond .le 7, 3) := by decide +kernel
theorem dL_rung_82 : decode cL_rung 82 = .ok (.iconst 1, 1) := by decide +kernel
theorem dL_rung_83 : decode cL_rung 83 = .ok (.goto 4, 3) := by decide +kernel
theorem dL_rung_86 : decode cL_rung 86 = .ok (.iconst 0, 1) := by decide +kernel
theorem dL_rung_87 : decode cL_rung 87 = .ok (.istore 9, 2) := by decide +kernel
theorem dL_rung_89 : decode cL_rung 89 = .ok (.iconst 1, 1) := by decide +kernel
theorem dL_rung_90 : decode cL_rung 90 = .ok (.istore 10, 2) := by decide +kernel
theorem dL_rung_92 : decode cL_rung 92 = .ok (.iconst 0, 1) := by decide +kernel
theorem dL_rung_93 : decode cL_rung 93 = .ok (.istore 11, 2) := by decide +kernel
theorem dL_rung_95 : decode cL_rung 95 = .ok (.iload 11, 2) := by decide +kernel
theorem dL_rung_97 : decode cL_rung 97 = .ok (.iload_n 2, 1) := by decide +kernel
theorem dL_rung_98 : decode cL_rung 98 = .ok (.if_icmp .ge 95, 3) := by decide +kernel
theorem dL_rung_101 : decode cL_rung 101 = .ok (.aload_n 1, 1) := by decide +kernel
theorem dL_rung_102 : decode cL_rung 102 = .ok (.iload 5, 2) := by decide +kernel
theorem dL_rung_104 : decode cL_rung 104 = .ok (.iload 11, 2) := by decide +kernel
theorem dL_rung_106 : decode cL_rung 106 = .ok (.invokestatic 228, 3) := by decide +kernel
theorem dL_rung_109 : decode cL_rung 109 = .ok (.istore 12, 2) := by decide +kernel
theorem dL_rung_111 : decode cL_rung 111 = .ok (.iconst 0, 1) := by decide +kernel
theorem dL_rung_112 : decode cL_rung 112 = .ok (.iload 7, 2) := by decide +kernel
theorem dL_rung_114 : decode cL_rung 114 = .ok (.aload_n 1, 1) := by decide +kernel
theorem dL_rung_115 : decode cL_rung 115 = .ok (.iload 5, 2) := by decide +kernel
theorem dL_rung_117 : decode cL_rung 117 = .ok (.iconst 0, 1) := by decide +kernel
theorem dL_rung_118 : decode cL_rung 118 = .ok (.invokestatic 172, 3) := by decide +kernel
theorem dL_rung_121 : decode cL_rung 121 = .ok (.aload_n 1, 1) := by decide +kernel
theorem dL_rung_122 : decode cL_rung 122 = .ok (.iload 11, 2) := by decide +kernel
theorem dL_rung_124 : decode cL_rung 124 = .ok (.iconst 0, 1) := by decide +kernel
theorem dL_rung_125 : decode cL_rung 125 = .ok (.invokestatic 172, 3) := by decide +kernel
theorem dL_rung_128 : decode cL_rung 128 = .ok (.invokestatic 231, 3) := by decide +kernel
theorem dL_rung_131 : decode cL_rung 131 = .ok (.isub, 1) := by decide +kernel
theorem dL_rung_132 : decode cL_rung 132 = .ok (.invokestatic 210, 3) := by decide +kernel
theorem dL_rung_135 : decode cL_rung 135 = .ok (.istore 13, 2) := by decide +kernel
theorem dL_rung_137 : decode cL_rung 137 = .ok (.iload 10, 2) := by decide +kernel
theorem dL_rung_139 : decode cL_rung 139 = .ok (.iload 12, 2) := by decide +kernel
theorem dL_rung_141 : decode cL_rung 141 = .ok (.ifCond .eq 15, 3) := by decide +kernel
theorem dL_rung_144 : decode cL_rung 144 = .ok (.iload 13, 2) := by decide +kernel
theorem dL_rung_146 : decode cL_rung 146 = .ok (.iload 8, 2) := by decide +kernel
theorem dL_rung_148 : decode cL_rung 148 = .ok (.iadd, 1) := by decide +kernel
theorem dL_rung_149 : decode cL_rung 149 = .ok (.ifCond .le 7, 3) := by decide +kernel
theorem dL_rung_152 : decode cL_rung 152 = .ok (.iconst 1, 1) := by decide +kernel
theorem dL_rung_153 : decode cL_rung 153 = .ok (.goto 4, 3) := by decide +kernel
theorem dL_rung_156 : decode cL_rung 156 = .ok (.iconst 0, 1) := by decide +kernel
theorem dL_rung_157 : decode cL_rung 157 = .ok (.iadd, 1) := by decide +kernel
theorem dL_rung_158 : decode cL_rung 158 = .ok (.istore 10, 2) := by decide +kernel
theorem dL_rung_160 : decode cL_rung 160 = .ok (.aload_n 1, 1) := by decide +kernel
theorem dL_rung_161 : decode cL_rung 161 = .ok (.iload 5, 2) := by decide +kernel
theorem dL_rung_163 : decode cL_rung 163 = .ok (.iload 11, 2) := by decide +kernel
theorem dL_rung_165 : decode cL_rung 165 = .ok (.iload 7, 2) := by decide +kernel
theorem dL_rung_167 : decode cL_rung 167 = .ok (.invokestatic 234, 3) := by decide +kernel
theorem dL_rung_170 : decode cL_rung 170 = .ok (.iload 12, 2) := by decide +kernel
theorem dL_rung_172 : decode cL_rung 172 = .ok (.ifCond .eq 8, 3) := by decide +kernel
theorem dL_rung_175 : decode cL_rung 175 = .ok (.iload 13, 2) := by decide +kernel
theorem dL_rung_177 : decode cL_rung 177 = .ok (.goto 5, 3) := by decide +kernel
theorem dL_rung_180 : decode cL_rung 180 = .ok (.bipush (-13), 2) := by decide +kernel
theorem dL_rung_182 : decode cL_rung 182 = .ok (.if_icmp .eq 5, 3) := by decide +kernel
theorem dL_rung_185 : decode cL_rung 185 = .ok (.iconst 0, 1) := by decide +kernel
theorem dL_rung_186 : decode cL_rung 186 = .ok (.ireturn, 1) := by decide +kernel
theorem dL_rung_187 : decode cL_rung 187 = .ok (.iinc 11 1, 3) := by decide +kernel
theorem dL_rung_190 : decode cL_rung 190 = .ok (.goto (-95), 3) := by decide +kernel
theorem dL_rung_193 : decode cL_rung 193 = .ok (.aload_n 1, 1) := by decide +kernel
theorem dL_rung_194 : decode cL_rung 194 = .ok (.iload 5, 2) := by decide +kernel
theorem dL_rung_196 : decode cL_rung 196 = .ok (.iload 6, 2) := by decide +kernel
theorem dL_rung_198 : decode cL_rung 198 = .ok (.iload 7, 2) := by decide +kernel
theorem dL_rung_200 : decode cL_rung 200 = .ok (.iload 8, 2) := by decide +kernel
theorem dL_rung_202 : decode cL_rung 202 = .ok (.invokestatic 236, 3) := by decide +kernel
theorem dL_rung_205 : decode cL_rung 205 = .ok (.iload 9, 2) := by decide +kernel
theorem dL_rung_207 : decode cL_rung 207 = .ok (.ifCond .eq 18, 3) := by decide +kernel
theorem dL_rung_210 : decode cL_rung 210 = .ok (.aload_n 1, 1) := by decide +kernel
theorem dL_rung_211 : decode cL_rung 211 = .ok (.iload 5, 2) := by decide +kernel
theorem dL_rung_213 : decode cL_rung 213 = .ok (.iload 6, 2) := by decide +kernel
theorem dL_rung_215 : decode cL_rung 215 = .ok (.iload 7, 2) := by decide +kernel
theorem dL_rung_217 : decode cL_rung 217 = .ok (.iload 8, 2) := by decide +kernel
theorem dL_rung_219 : decode cL_rung 219 = .ok (.invokestatic 239, 3) := by decide +kernel
theorem dL_rung_222 : decode cL_rung 222 = .ok (.goto 5, 3) := by decide +kernel
theorem dL_rung_225 : decode cL_rung 225 = .ok (.bipush (-12), 2) := by decide +kernel
theorem dL_rung_227 : decode cL_rung 227 = .ok (.if_icmp .ne 28, 3) := by decide +kernel
theorem dL_rung_230 : decode cL_rung 230 = .ok (.aload_n 1, 1) := by decide +kernel
theorem dL_rung_231 : decode cL_rung 231 = .ok (.iload 5, 2) := by decide +kernel
theorem dL_rung_233 : decode cL_rung 233 = .ok (.iload 7, 2) := by decide +kernel
theorem dL_rung_235 : decode cL_rung 235 = .ok (.iload 8, 2) := by decide +kernel
theorem dL_rung_237 : decode cL_rung 237 = .ok (.invokestatic 242, 3) := by decide +kernel
theorem dL_rung_240 : decode cL_rung 240 = .ok (.iload 9, 2) := by decide +kernel
theorem dL_rung_242 : decode cL_rung 242 = .ok (.ifCond .eq 8, 3) := by decide +kernel
theorem dL_rung_245 : decode cL_rung 245 = .ok (.iload 10, 2) := by decide +kernel
theorem dL_rung_247 : decode cL_rung 247 = .ok (.goto 5, 3) := by decide +kernel
theorem dL_rung_250 : decode cL_rung 250 = .ok (.bipush (-12), 2) := by decide +kernel
theorem dL_rung_252 : decode cL_rung 252 = .ok (.if_icmp .eq 5, 3) := by decide +kernel
theorem dL_rung_255 : decode cL_rung 255 = .ok (.iconst 0, 1) := by decide +kernel
theorem dL_rung_256 : decode cL_rung 256 = .ok (.ireturn, 1) := by decide +kernel
theorem dL_rung_257 : decode cL_rung 257 = .ok (.iinc 3 1, 3) := by decide +kernel
theorem dL_rung_260 : decode cL_rung 260 = .ok (.goto (-252), 3) := by decide +kernel
theorem dL_rung_263 : decode cL_rung 263 = .ok (.aload_n 1, 1) := by decide +kernel
theorem dL_rung_264 : decode cL_rung 264 = .ok (.iload_n 2, 1) := by decide +kernel
theorem dL_rung_265 : decode cL_rung 265 = .ok (.bipush 24, 2) := by decide +kernel
theorem dL_rung_267 : decode cL_rung 267 = .ok (.bipush 10, 2) := by decide +kernel
theorem dL_rung_269 : decode cL_rung 269 = .ok (.bipush 10, 2) := by decide +kernel
theorem dL_rung_271 : decode cL_rung 271 = .ok (.invokestatic 236, 3) := by decide +kernel
theorem dL_rung_274 : decode cL_rung 274 = .ok (.bipush (-11), 2) := by decide +kernel
theorem dL_rung_276 : decode cL_rung 276 = .ok (.if_icmp .ne 76, 3) := by decide +kernel
theorem dL_rung_279 : decode cL_rung 279 = .ok (.iload_n 2, 1) := by decide +kernel
theorem dL_rung_280 : decode cL_rung 280 = .ok (.ifCond .eq 56, 3) := by decide +kernel
theorem dL_rung_283 : decode cL_rung 283 = .ok (.aload_n 1, 1) := by decide +kernel
theorem dL_rung_284 : decode cL_rung 284 = .ok (.iconst 0, 1) := by decide +kernel
theorem dL_rung_285 : decode cL_rung 285 = .ok (.bipush 24, 2) := by decide +kernel
theorem dL_rung_287 : decode cL_rung 287 = .ok (.iconst 1, 1) := by decide +kernel
theorem dL_rung_288 : decode cL_rung 288 = .ok (.iconst 0, 1) := by decide +kernel
theorem dL_rung_289 : decode cL_rung 289 = .ok (.invokestatic 236, 3) := by decide +kernel
theorem dL_rung_292 : decode cL_rung 292 = .ok (.bipush (-12), 2) := by decide +kernel
theorem dL_rung_294 : decode cL_rung 294 = .ok (.if_icmp .ne 58, 3) := by decide +kernel
theorem dL_rung_297 : decode cL_rung 297 = .ok (.aload_n 1, 1) := by decide +kernel
theorem dL_rung_298 : decode cL_rung 298 = .ok (.iconst 0, 1) := by decide +kernel
theorem dL_rung_299 : decode cL_rung 299 = .ok (.iload_n 2, 1) := by decide +kernel
theorem dL_rung_300 : decode cL_rung 300 = .ok (.bipush 10, 2) := by decide +kernel
theorem dL_rung_302 : decode cL_rung 302 = .ok (.invokestatic 234, 3) := by decide +kernel
theorem dL_rung_305 : decode cL_rung 305 = .ok (.bipush (-11), 2) := by decide +kernel
theorem dL_rung_307 : decode cL_rung 307 = .ok (.if_icmp .ne 45, 3) := by decide +kernel
theorem dL_rung_310 : decode cL_rung 310 = .ok (.aload_n 1, 1) := by decide +kernel
theorem dL_rung_311 : decode cL_rung 311 = .ok (.iconst 0, 1) := by decide +kernel
theorem dL_rung_312 : decode cL_rung 312 = .ok (.iconst 0, 1) := by decide +kernel
theorem dL_rung_313 : decode cL_rung 313 = .ok (.bipush 10, 2) := by decide +kernel
theorem dL_rung_315 : decode cL_rung 315 = .ok (.invokestatic 234, 3) := by decide +kernel
theorem dL_rung_318 : decode cL_rung 318 = .ok (.bipush (-12), 2) := by decide +kernel
theorem dL_rung_320 : decode cL_rung 320 = .ok (.if_icmp .ne 32, 3) := by decide +kernel
theorem dL_rung_323 : decode cL_rung 323 = .ok (.aload_n 1, 1) := by decide +kernel
theorem dL_rung_324 : decode cL_rung 324 = .ok (.iconst 0, 1) := by decide +kernel
theorem dL_rung_325 : decode cL_rung 325 = .ok (.bipush 10, 2) := by decide +kernel
theorem dL_rung_327 : decode cL_rung 327 = .ok (.iconst 0, 1) := by decide +kernel
theorem dL_rung_328 : decode cL_rung 328 = .ok (.invokestatic 242, 3) := by decide +kernel
theorem dL_rung_331 : decode cL_rung 331 = .ok (.bipush (-12), 2) := by decide +kernel
theorem dL_rung_333 : decode cL_rung 333 = .ok (.if_icmp .ne 19, 3) := by decide +kernel
theorem dL_rung_336 : decode cL_rung 336 = .ok (.aload_n 1, 1) := by decide +kernel
theorem dL_rung_337 : decode cL_rung 337 = .ok (.iload_n 2, 1) := by decide +kernel
theorem dL_rung_338 : decode cL_rung 338 = .ok (.iconst 0, 1) := by decide +kernel
theorem dL_rung_339 : decode cL_rung 339 = .ok (.iconst 0, 1) := by decide +kernel
theorem dL_rung_340 : decode cL_rung 340 = .ok (.invokestatic 242, 3) := by decide +kernel
theorem dL_rung_343 : decode cL_rung 343 = .ok (.bipush (-11), 2) := by decide +kernel
theorem dL_rung_345 : decode cL_rung 345 = .ok (.if_icmp .ne 7, 3) := by decide +kernel
theorem dL_rung_348 : decode cL_rung 348 = .ok (.iconst 1, 1) := by decide +kernel
theorem dL_rung_349 : decode cL_rung 349 = .ok (.goto 4, 3) := by decide +kernel
theorem dL_rung_352 : decode cL_rung 352 = .ok (.iconst 0, 1) := by decide +kernel
theorem dL_rung_353 : decode cL_rung 353 = .ok (.ireturn, 1) := by decide +kernel
theorem k_L_rung : cardS yL_rung (Cond.code yL_rung cL_rung 14 (some .boolean)) 2 := ⟨qs_L_rung, qc_L_rung, qn_L, by decide +kernel, by decide +kernel, by decide +kernel⟩
set_option maxHeartbeats 4000000 in
set_option maxRecDepth 100000 in
theorem c_L_rung (l : Launch) (hfl : l.stackTraces = false) (ev : LEv) (D : va_G) (g : Nat → ClassId) (ad : Nat → Nat → Nat) (ax : Nat → Nat) (x : XVal) (o : Int32) (h : F_L_rung ev.L ev.xs x = some o) : MG l yL_rung (Cond.code yL_rung cL_rung 14 (some .boolean)) { frames := 12, cells := 945, slots := 5670, locals := 224 } (KF ev) D g [.ref ev.b, .ref (ax 0)] ([] ++ OW g ax ad x) (some (.int o)) ([] ++ OW g ax ad x) 945 5670 := by
  refine z_g_start (by decide) (Nat.le_of_ble_eq_true rfl) ?_
  intro p e s m args below meth c Q A X hr hK hA hQ
  refine z_lv (lv' := [(0, .ref ev.b), (1, .ref (ax 0))]) rfl ?_
  have H336 : ∀ (x2 : Int32), J_L_rung_336 ev.L ev.xs x x2 = some o → Z p l e { frames := 12, cells := 945, slots := 5670, locals := 224 } s m args below meth c Q 14 942 5652 (IW D A s ([] ++ OW g ax ad x)) 336 [(1, .ref (ax 0)), (2, .int x2)] [] := by
    intro x2 h
    refine z_aload_n X 0 dL_rung_336 rfl rfl ?_
    refine z_iload_n X 1 dL_rung_337 rfl rfl ?_
    refine z_iconst X (0 : Int32) dL_rung_338 (by decide) ?_
    refine z_iconst X (0 : Int32) dL_rung_339 (by decide) ?_
    obtain ⟨o7, e8, h⟩ := bnd_p h
    have f9 := bk_appP (X := OW g ax ad x) (X' := OW g ax ad x) (perm_of (n := 0) (E := []) (wc := []) (wr := []) [] [] rfl rfl rfl (by decide +kernel)) (perm_of (n := 0) (E := []) (wc := []) (wr := []) [] [] rfl rfl rfl (by decide +kernel)) rfl OW_fst
    refine z_gSH (rest := []) (ws' := ([] ++ OW g ax ad x)) X (KF_ok ev) (kc_of (KF_ok ev) (fun _ _ _ q => q) hK hA f9.1) hA k_L_heard (c_L_heard l hfl ev D g ad ax x2 (0 : Int32) (0 : Int32) x o7 e8) ql_L_L_heard dL_rung_340 f9.1 f9.2 rfl rfl ⟨Nat.le_of_ble_eq_true rfl, Nat.le_of_ble_eq_true rfl, rfl, rfl, (Nat.le_trans (m := 945) (by first | exact Nat.le_of_ble_eq_true rfl | omega) (Nat.le_of_ble_eq_true rfl)), (Nat.le_trans (m := 5670) (by first | exact Nat.le_of_ble_eq_true rfl | omega) (Nat.le_of_ble_eq_true rfl))⟩ (Nat.le_of_ble_eq_true rfl) ?_
    refine z_bipush X ((-11) : Int32) dL_rung_343 (by decide) ?_
    refine z_icmp_ne X 352 dL_rung_345 (by decide) h (fun _ h => ?_) (fun _ h => ?_)
    · refine z_iconst X (1 : Int32) dL_rung_348 (by decide) ?_
      refine z_goto X 353 dL_rung_349 (by decide) ?_
      cases h
      exact z_lzret X hQ (by first | exact Nat.le_of_ble_eq_true rfl | omega) (by first | exact Nat.le_of_ble_eq_true rfl | omega) hr dL_rung_353 rfl
    · cases h
  have H263 : ∀ (x2 : Int32), J_L_rung_263 ev.L ev.xs x x2 = some o → Z p l e { frames := 12, cells := 945, slots := 5670, locals := 224 } s m args below meth c Q 14 925 5550 (IW D A s ([] ++ OW g ax ad x)) 263 [(1, .ref (ax 0)), (2, .int x2)] [] := by
    intro x2 h
    refine z_aload_n X 0 dL_rung_263 rfl rfl ?_
    refine z_iload_n X 1 dL_rung_264 rfl rfl ?_
    refine z_bipush X (24 : Int32) dL_rung_265 (by decide) ?_
    refine z_bipush X (10 : Int32) dL_rung_267 (by decide) ?_
    refine z_bipush X (10 : Int32) dL_rung_269 (by decide) ?_
    obtain ⟨o4, e5, h⟩ := bnd_p h
    have f6 := bk_appP (X := OW g ax ad x) (X' := OW g ax ad x) (perm_of (n := 0) (E := []) (wc := []) (wr := []) [] [] rfl rfl rfl (by decide +kernel)) (perm_of (n := 0) (E := []) (wc := []) (wr := []) [] [] rfl rfl rfl (by decide +kernel)) rfl OW_fst
    refine z_gSH (rest := []) (ws' := ([] ++ OW g ax ad x)) X (KF_ok ev) (kc_of (KF_ok ev) (fun _ _ _ q => q) hK hA f6.1) hA k_L_classOf (c_L_classOf l hfl ev D g ad ax x2 (24 : Int32) (10 : Int32) (10 : Int32) x o4 e5) ql_L_L_classOf dL_rung_271 f6.1 f6.2 rfl rfl ⟨Nat.le_of_ble_eq_true rfl, Nat.le_of_ble_eq_true rfl, rfl, rfl, (Nat.le_trans (m := 945) (by first | exact Nat.le_of_ble_eq_true rfl | omega) (Nat.le_of_ble_eq_true rfl)), (Nat.le_trans (m := 5670) (by first | exact Nat.le_of_ble_eq_true rfl | omega) (Nat.le_of_ble_eq_true rfl))⟩ (Nat.le_of_ble_eq_true rfl) ?_
    refine z_bipush X ((-11) : Int32) dL_rung_274 (by decide) ?_
    refine z_icmp_ne X 352 dL_rung_276 (by decide) h (fun _ h => ?_) (fun _ h => ?_)
    · refine z_iload_n X 1 dL_rung_279 rfl rfl ?_
      refine z_if_eq X 336 dL_rung_280 (by decide) h (fun _ h => ?_) (fun _ h => ?_)
      · refine z_widen (k := 942) (n := 5652) (by first | exact Nat.le_of_ble_eq_true rfl | omega) (by first | exact Nat.le_of_ble_eq_true rfl | omega) ?_
        exact H336 x2 h
      · refine z_aload_n X 0 dL_rung_283 rfl rfl ?_
        refine z_iconst X (0 : Int32) dL_rung_284 (by decide) ?_
        refine z_bipush X (24 : Int32) dL_rung_285 (by decide) ?_
        refine z_iconst X (1 : Int32) dL_rung_287 (by decide) ?_
        refine z_iconst X (0 : Int32) dL_rung_288 (by decide) ?_
        obtain ⟨o10, e11, h⟩ := bnd_p h
        have f12 := bk_appP (X := OW g ax ad x) (X' := OW g ax ad x) (perm_of (n := 0) (E := []) (wc := []) (wr := []) [] [] rfl rfl rfl (by decide +kernel)) (perm_of (n := 0) (E := []) (wc := []) (wr := []) [] [] rfl rfl rfl (by decide +kernel)) rfl OW_fst
        refine z_gSH (rest := []) (ws' := ([] ++ OW g ax ad x)) X (KF_ok ev) (kc_of (KF_ok ev) (fun _ _ _ q => q) hK hA f12.1) hA k_L_classOf (c_L_classOf l hfl ev D g ad ax (0 : Int32) (24 : Int32) (1 : Int32) (0 : Int32) x o10 e11) ql_L_L_classOf dL_rung_289 f12.1 f12.2 rfl rfl ⟨Nat.le_of_ble_eq_true rfl, Nat.le_of_ble_eq_true rfl, rfl, rfl, (Nat.le_trans (m := 945) (by first | exact Nat.le_of_ble_eq_true rfl | omega) (Nat.le_of_ble_eq_true rfl)), (Nat.le_trans (m := 5670) (by first | exact Nat.le_of_ble_eq_true rfl | omega) (Nat.le_of_ble_eq_true rfl))⟩ (Nat.le_of_ble_eq_true rfl) ?_
        refine z_bipush X ((-12) : Int32) dL_rung_292 (by decide) ?_
        refine z_icmp_ne X 352 dL_rung_294 (by decide) h (fun _ h => ?_) (fun _ h => ?_)
        · refine z_aload_n X 0 dL_rung_297 rfl rfl ?_
          refine z_iconst X (0 : Int32) dL_rung_298 (by decide) ?_
          refine z_iload_n X 1 dL_rung_299 rfl rfl ?_
          refine z_bipush X (10 : Int32) dL_rung_300 (by decide) ?_
          obtain ⟨o13, e14, h⟩ := bnd_p h
          have f15 := bk_appP (X := OW g ax ad x) (X' := OW g ax ad x) (perm_of (n := 0) (E := []) (wc := []) (wr := []) [] [] rfl rfl rfl (by decide +kernel)) (perm_of (n := 0) (E := []) (wc := []) (wr := []) [] [] rfl rfl rfl (by decide +kernel)) rfl OW_fst
          refine z_gSH (rest := []) (ws' := ([] ++ OW g ax ad x)) X (KF_ok ev) (kc_of (KF_ok ev) (fun _ _ _ q => q) hK hA f15.1) hA k_L_echo (c_L_echo l hfl ev D g ad ax (0 : Int32) x2 (10 : Int32) x o13 e14) ql_L_L_echo dL_rung_302 f15.1 f15.2 rfl rfl ⟨Nat.le_of_ble_eq_true rfl, Nat.le_of_ble_eq_true rfl, rfl, rfl, (Nat.le_trans (m := 945) (by first | exact Nat.le_of_ble_eq_true rfl | omega) (Nat.le_of_ble_eq_true rfl)), (Nat.le_trans (m := 5670) (by first | exact Nat.le_of_ble_eq_true rfl | omega) (Nat.le_of_ble_eq_true rfl))⟩ (Nat.le_of_ble_eq_true rfl) ?_
          refine z_bipush X ((-11) : Int32) dL_rung_305 (by decide) ?_
          refine z_icmp_ne X 352 dL_rung_307 (by decide) h (fun _ h => ?_) (fun _ h => ?_)
          · refine z_aload_n X 0 dL_rung_310 rfl rfl ?_
            refine z_iconst X (0 : Int32) dL_rung_311 (by decide) ?_
            refine z_iconst X (0 : Int32) dL_rung_312 (by decide) ?_
            refine z_bipush X (10 : Int32) dL_rung_313 (by decide) ?_
            obtain ⟨o16, e17, h⟩ := bnd_p h
            have f18 := bk_appP (X := OW g ax ad x) (X' := OW g ax ad x) (perm_of (n := 0) (E := []) (wc := []) (wr := []) [] [] rfl rfl rfl (by decide +kernel)) (perm_of (n := 0) (E := []) (wc := []) (wr := []) [] [] rfl rfl rfl (by decide +kernel)) rfl OW_fst
            refine z_gSH (rest := []) (ws' := ([] ++ OW g ax ad x)) X (KF_ok ev) (kc_of (KF_ok ev) (fun _ _ _ q => q) hK hA f18.1) hA k_L_echo (c_L_echo l hfl ev D g ad ax (0 : Int32) (0 : Int32) (10 : Int32) x o16 e17) ql_L_L_echo dL_rung_315 f18.1 f18.2 rfl rfl ⟨Nat.le_of_ble_eq_true rfl, Nat.le_of_ble_eq_true rfl, rfl, rfl, (Nat.le_trans (m := 945) (by first | exact Nat.le_of_ble_eq_true rfl | omega) (Nat.le_of_ble_eq_true rfl)), (Nat.le_trans (m := 5670) (by first | exact Nat.le_of_ble_eq_true rfl | omega) (Nat.le_of_ble_eq_true rfl))⟩ (Nat.le_of_ble_eq_true rfl) ?_
            refine z_bipush X ((-12) : Int32) dL_rung_318 (by decide) ?_
            refine z_icmp_ne X 352 dL_rung_320 (by decide) h (fun _ h => ?_) (fun _ h => ?_)
            · refine z_aload_n X 0 dL_rung_323 rfl rfl ?_
              refine z_iconst X (0 : Int32) dL_rung_324 (by decide) ?_
              refine z_bipush X (10 : Int32) dL_rung_325 (by decide) ?_
              refine z_iconst X (0 : Int32) dL_rung_327 (by decide) ?_
              obtain ⟨o19, e20, h⟩ := bnd_p h
              have f21 := bk_appP (X := OW g ax ad x) (X' := OW g ax ad x) (perm_of (n := 0) (E := []) (wc := []) (wr := []) [] [] rfl rfl rfl (by decide +kernel)) (perm_of (n := 0) (E := []) (wc := []) (wr := []) [] [] rfl rfl rfl (by decide +kernel)) rfl OW_fst
              refine z_gSH (rest := []) (ws' := ([] ++ OW g ax ad x)) X (KF_ok ev) (kc_of (KF_ok ev) (fun _ _ _ q => q) hK hA f21.1) hA k_L_heard (c_L_heard l hfl ev D g ad ax (0 : Int32) (10 : Int32) (0 : Int32) x o19 e20) ql_L_L_heard dL_rung_328 f21.1 f21.2 rfl rfl ⟨Nat.le_of_ble_eq_true rfl, Nat.le_of_ble_eq_true rfl, rfl, rfl, (Nat.le_trans (m := 945) (by first | exact Nat.le_of_ble_eq_true rfl | omega) (Nat.le_of_ble_eq_true rfl)), (Nat.le_trans (m := 5670) (by first | exact Nat.le_of_ble_eq_true rfl | omega) (Nat.le_of_ble_eq_true rfl))⟩ (Nat.le_of_ble_eq_true rfl) ?_
              refine z_bipush X ((-12) : Int32) dL_rung_331 (by decide) ?_
              refine z_icmp_ne X 352 dL_rung_333 (by decide) h (fun _ h => ?_) (fun _ h => ?_)
              · refine z_widen (k := 942) (n := 5652) (by first | exact Nat.le_of_ble_eq_true rfl | omega) (by first | exact Nat.le_of_ble_eq_true rfl | omega) ?_
                exact H336 x2 h
              · cases h
            · cases h
          · cases h
        · cases h
    · cases h
  have H8 : ∀ (n : Nat) (x2 : Int32) (x3 : Int32) (c8 s8 : Nat), c8 + 154 * n ≤ 925 → s8 + 924 * n ≤ 5550 → L_L_rung_8 ev.L ev.xs x n x2 x3 = some o → Z p l e { frames := 12, cells := 945, slots := 5670, locals := 224 } s m args below meth c Q 14 c8 s8 (IW D A s ([] ++ OW g ax ad x)) 8 [(0, .ref ev.b), (1, .ref (ax 0)), (2, .int x2), (3, .int x3)] [] := by
    intro n
    induction n with
    | zero => intro x2 x3 c8 s8 _ _ h; cases h
    | succ n8 ih8 =>
      intro x2 x3 c8 s8 hc8 hs8 h
      have H252 : ∀ (t0 : Int32) (t1 : Int32) (x2 : Int32) (x3 : Int32), J_L_rung_252 ev.L ev.xs x (L_L_rung_8 ev.L ev.xs x n8) t0 t1 x2 x3 = some o → Z p l e { frames := 12, cells := 945, slots := 5670, locals := 224 } s m args below meth c Q 14 (c8 + 154) (s8 + 924) (IW D A s ([] ++ OW g ax ad x)) 252 [(0, .ref ev.b), (1, .ref (ax 0)), (2, .int x2), (3, .int x3)] [.int t0, .int t1] := by
        intro t0 t1 x2 x3 h
        refine z_icmp_eq X 257 dL_rung_252 (by decide) h (fun _ h => ?_) (fun _ h => ?_)
        · refine z_iinc X 3 [(3, .int (x3 + 1)), (0, .ref ev.b), (1, .ref (ax 0)), (2, .int x2)] dL_rung_257 rfl rfl (by decide) rfl ?_
          refine z_goto X 8 dL_rung_260 (by decide) ?_
          refine z_sub (lv' := [(0, .ref ev.b), (1, .ref (ax 0)), (2, .int x2), (3, .int (x3 + 1))]) [1, 2, 3, 0] rfl ?_
          exact ih8 x2 (x3 + 1) _ _ (by omega) (by omega) h
        · cases h
      have H227 : ∀ (t0 : Int32) (t1 : Int32) (x2 : Int32) (x3 : Int32) (x5 : Int32) (x7 : Int32) (x8 : Int32) (x9 : Int32) (x10 : Int32), J_L_rung_227 ev.L ev.xs x (L_L_rung_8 ev.L ev.xs x n8) t0 t1 x2 x3 x5 x7 x8 x9 x10 = some o → Z p l e { frames := 12, cells := 945, slots := 5670, locals := 224 } s m args below meth c Q 14 (c8 + 151) (s8 + 906) (IW D A s ([] ++ OW g ax ad x)) 227 [(0, .ref ev.b), (1, .ref (ax 0)), (2, .int x2), (3, .int x3), (5, .int x5), (7, .int x7), (8, .int x8), (9, .int x9), (10, .int x10)] [.int t0, .int t1] := by
        intro t0 t1 x2 x3 x5 x7 x8 x9 x10 h
        refine z_icmp_ne X 255 dL_rung_227 (by decide) h (fun _ h => ?_) (fun _ h => ?_)
        · refine z_aload_n X 1 dL_rung_230 rfl rfl ?_
          refine z_iload X 4 dL_rung_231 rfl ?_
          refine z_iload X 5 dL_rung_233 rfl ?_
          refine z_iload X 6 dL_rung_235 rfl ?_
          obtain ⟨o28, e29, h⟩ := bnd_p h
          have f30 := bk_appP (X := OW g ax ad x) (X' := OW g ax ad x) (perm_of (n := 0) (E := []) (wc := []) (wr := []) [] [] rfl rfl rfl (by decide +kernel)) (perm_of (n := 0) (E := []) (wc := []) (wr := []) [] [] rfl rfl rfl (by decide +kernel)) rfl OW_fst
          refine z_gSH (rest := []) (ws' := ([] ++ OW g ax ad x)) X (KF_ok ev) (kc_of (KF_ok ev) (fun _ _ _ q => q) hK hA f30.1) hA k_L_heard (c_L_heard l hfl ev D g ad ax x5 x7 x8 x o28 e29) ql_L_L_heard dL_rung_237 f30.1 f30.2 rfl rfl ⟨Nat.le_of_ble_eq_true rfl, Nat.le_of_ble_eq_true rfl, rfl, rfl, (Nat.le_trans (m := 945) (by first | exact Nat.le_of_ble_eq_true rfl | omega) (Nat.le_of_ble_eq_true rfl)), (Nat.le_trans (m := 5670) (by first | exact Nat.le_of_ble_eq_true rfl | omega) (Nat.le_of_ble_eq_true rfl))⟩ (Nat.le_of_ble_eq_true rfl) ?_
          refine z_iload X 7 dL_rung_240 rfl ?_
          refine z_if_eq X 250 dL_rung_242 (by decide) h (fun _ h => ?_) (fun _ h => ?_)
          · refine z_bipush X ((-12) : Int32) dL_rung_250 (by decide) ?_
            refine z_widen (k := (c8 + 154)) (n := (s8 + 924)) (by first | exact Nat.le_of_ble_eq_true rfl | omega) (by first | exact Nat.le_of_ble_eq_true rfl | omega) ?_
            refine z_sub (lv' := [(0, .ref ev.b), (1, .ref (ax 0)), (2, .int x2), (3, .int x3)]) [0, 1, 2, 3] rfl ?_
            exact H252 ((-12) : Int32) o28 x2 x3 h
          · refine z_iload X 8 dL_rung_245 rfl ?_
            refine z_goto X 252 dL_rung_247 (by decide) ?_
            refine z_widen (k := (c8 + 154)) (n := (s8 + 924)) (by first | exact Nat.le_of_ble_eq_true rfl | omega) (by first | exact Nat.le_of_ble_eq_true rfl | omega) ?_
            refine z_sub (lv' := [(0, .ref ev.b), (1, .ref (ax 0)), (2, .int x2), (3, .int x3)]) [0, 1, 2, 3] rfl ?_
            exact H252 x10 o28 x2 x3 h
        · cases h
      have H95 : ∀ (n : Nat) (x2 : Int32) (x3 : Int32) (x5 : Int32) (x6 : Int32) (x7 : Int32) (x8 : Int32) (x9 : Int32) (x10 : Int32) (x11 : Int32) (c95 s95 : Nat), c95 + 13 * n ≤ (c8 + 143) → s95 + 78 * n ≤ (s8 + 858) → L_L_rung_95 ev.L ev.xs x (L_L_rung_8 ev.L ev.xs x n8) n x2 x3 x5 x6 x7 x8 x9 x10 x11 = some o → Z p l e { frames := 12, cells := 945, slots := 5670, locals := 224 } s m args below meth c Q 14 c95 s95 (IW D A s ([] ++ OW g ax ad x)) 95 [(0, .ref ev.b), (1, .ref (ax 0)), (2, .int x2), (3, .int x3), (5, .int x5), (6, .int x6), (7, .int x7), (8, .int x8), (9, .int x9), (10, .int x10), (11, .int x11)] [] := by
        intro n
        induction n with
        | zero => intro x2 x3 x5 x6 x7 x8 x9 x10 x11 c95 s95 _ _ h; cases h
        | succ n95 ih95 =>
          intro x2 x3 x5 x6 x7 x8 x9 x10 x11 c95 s95 hc95 hs95 h
          have H182 : ∀ (t0 : Int32) (t1 : Int32) (x2 : Int32) (x3 : Int32) (x5 : Int32) (x6 : Int32) (x7 : Int32) (x8 : Int32) (x9 : Int32) (x10 : Int32) (x11 : Int32), J_L_rung_182 ev.L ev.xs x (L_L_rung_8 ev.L ev.xs x n8) (L_L_rung_95 ev.L ev.xs x (L_L_rung_8 ev.L ev.xs x n8) n95) t0 t1 x2 x3 x5 x6 x7 x8 x9 x10 x11 = some o → Z p l e { frames := 12, cells := 945, slots := 5670, locals := 224 } s m args below meth c Q 14 (c95 + 13) (s95 + 78) (IW D A s ([] ++ OW g ax ad x)) 182 [(0, .ref ev.b), (1, .ref (ax 0)), (2, .int x2), (3, .int x3), (5, .int x5), (6, .int x6), (7, .int x7), (8, .int x8), (9, .int x9), (10, .int x10), (11, .int x11)] [.int t0, .int t1] := by
            intro t0 t1 x2 x3 x5 x6 x7 x8 x9 x10 x11 h
            refine z_icmp_eq X 187 dL_rung_182 (by decide) h (fun _ h => ?_) (fun _ h => ?_)
            · refine z_iinc X 10 [(11, .int (x11 + 1)), (0, .ref ev.b), (1, .ref (ax 0)), (2, .int x2), (3, .int x3), (5, .int x5), (6, .int x6), (7, .int x7), (8, .int x8), (9, .int x9), (10, .int x10)] dL_rung_187 rfl rfl (by decide) rfl ?_
              refine z_goto X 95 dL_rung_190 (by decide) ?_
              refine z_sub (lv' := [(0, .ref ev.b), (1, .ref (ax 0)), (2, .int x2), (3, .int x3), (5, .int x5), (6, .int x6), (7, .int x7), (8, .int x8), (9, .int x9), (10, .int x10), (11, .int (x11 + 1))]) [1, 2, 3, 4, 5, 6, 7, 8, 9, 10, 0] rfl ?_
              exact ih95 x2 x3 x5 x6 x7 x8 x9 x10 (x11 + 1) _ _ (by omega) (by omega) h
            · cases h
          have H157 : ∀ (t0 : Int32) (t1 : Int32) (x2 : Int32) (x3 : Int32) (x5 : Int32) (x6 : Int32) (x7 : Int32) (x8 : Int32) (x9 : Int32) (x11 : Int32) (x12 : Int32) (x13 : Int32), J_L_rung_157 ev.L ev.xs x (L_L_rung_8 ev.L ev.xs x n8) (L_L_rung_95 ev.L ev.xs x (L_L_rung_8 ev.L ev.xs x n8) n95) t0 t1 x2 x3 x5 x6 x7 x8 x9 x11 x12 x13 = some o → Z p l e { frames := 12, cells := 945, slots := 5670, locals := 224 } s m args below meth c Q 14 (c95 + 10) (s95 + 60) (IW D A s ([] ++ OW g ax ad x)) 157 [(0, .ref ev.b), (1, .ref (ax 0)), (2, .int x2), (3, .int x3), (5, .int x5), (6, .int x6), (7, .int x7), (8, .int x8), (9, .int x9), (11, .int x11), (12, .int x12), (13, .int x13)] [.int t0, .int t1] := by
            intro t0 t1 x2 x3 x5 x6 x7 x8 x9 x11 x12 x13 h
            refine z_iadd X dL_rung_157 ?_
            refine z_istore X [(10, .int (t1 + t0)), (0, .ref ev.b), (1, .ref (ax 0)), (2, .int x2), (3, .int x3), (5, .int x5), (6, .int x6), (7, .int x7), (8, .int x8), (9, .int x9), (11, .int x11), (12, .int x12), (13, .int x13)] dL_rung_158 (by decide) rfl ?_
            refine z_aload_n X 2 dL_rung_160 rfl rfl ?_
            refine z_iload X 5 dL_rung_161 rfl ?_
            refine z_iload X 10 dL_rung_163 rfl ?_
            refine z_iload X 7 dL_rung_165 rfl ?_
            obtain ⟨o46, e47, h⟩ := bnd_p h
            have f48 := bk_appP (X := OW g ax ad x) (X' := OW g ax ad x) (perm_of (n := 0) (E := []) (wc := []) (wr := []) [] [] rfl rfl rfl (by decide +kernel)) (perm_of (n := 0) (E := []) (wc := []) (wr := []) [] [] rfl rfl rfl (by decide +kernel)) rfl OW_fst
            refine z_gSH (rest := []) (ws' := ([] ++ OW g ax ad x)) X (KF_ok ev) (kc_of (KF_ok ev) (fun _ _ _ q => q) hK hA f48.1) hA k_L_echo (c_L_echo l hfl ev D g ad ax x5 x11 x7 x o46 e47) ql_L_L_echo dL_rung_167 f48.1 f48.2 rfl rfl ⟨Nat.le_of_ble_eq_true rfl, Nat.le_of_ble_eq_true rfl, rfl, rfl, (Nat.le_trans (m := 945) (by first | exact Nat.le_of_ble_eq_true rfl | omega) (Nat.le_of_ble_eq_true rfl)), (Nat.le_trans (m := 5670) (by first | exact Nat.le_of_ble_eq_true rfl | omega) (Nat.le_of_ble_eq_true rfl))⟩ (Nat.le_of_ble_eq_true rfl) ?_
            refine z_iload X 11 dL_rung_170 rfl ?_
            refine z_if_eq X 180 dL_rung_172 (by decide) h (fun _ h => ?_) (fun _ h => ?_)
            · refine z_bipush X ((-13) : Int32) dL_rung_180 (by decide) ?_
              refine z_widen (k := (c95 + 13)) (n := (s95 + 78)) (by first | exact Nat.le_of_ble_eq_true rfl | omega) (by first | exact Nat.le_of_ble_eq_true rfl | omega) ?_
              refine z_sub (lv' := [(0, .ref ev.b), (1, .ref (ax 0)), (2, .int x2), (3, .int x3), (5, .int x5), (6, .int x6), (7, .int x7), (8, .int x8), (9, .int x9), (10, .int (t1 + t0)), (11, .int x11)]) [1, 2, 3, 4, 5, 6, 7, 8, 9, 0, 10] rfl ?_
              exact H182 ((-13) : Int32) o46 x2 x3 x5 x6 x7 x8 x9 (t1 + t0) x11 h
            · refine z_iload X 12 dL_rung_175 rfl ?_
              refine z_goto X 182 dL_rung_177 (by decide) ?_
              refine z_widen (k := (c95 + 13)) (n := (s95 + 78)) (by first | exact Nat.le_of_ble_eq_true rfl | omega) (by first | exact Nat.le_of_ble_eq_true rfl | omega) ?_
              refine z_sub (lv' := [(0, .ref ev.b), (1, .ref (ax 0)), (2, .int x2), (3, .int x3), (5, .int x5), (6, .int x6), (7, .int x7), (8, .int x8), (9, .int x9), (10, .int (t1 + t0)), (11, .int x11)]) [1, 2, 3, 4, 5, 6, 7, 8, 9, 0, 10] rfl ?_
              exact H182 x13 o46 x2 x3 x5 x6 x7 x8 x9 (t1 + t0) x11 h
          have H156 : ∀ (t0 : Int32) (x2 : Int32) (x3 : Int32) (x5 : Int32) (x6 : Int32) (x7 : Int32) (x8 : Int32) (x9 : Int32) (x11 : Int32) (x12 : Int32) (x13 : Int32), J_L_rung_156 ev.L ev.xs x (L_L_rung_8 ev.L ev.xs x n8) (L_L_rung_95 ev.L ev.xs x (L_L_rung_8 ev.L ev.xs x n8) n95) t0 x2 x3 x5 x6 x7 x8 x9 x11 x12 x13 = some o → Z p l e { frames := 12, cells := 945, slots := 5670, locals := 224 } s m args below meth c Q 14 (c95 + 10) (s95 + 60) (IW D A s ([] ++ OW g ax ad x)) 156 [(0, .ref ev.b), (1, .ref (ax 0)), (2, .int x2), (3, .int x3), (5, .int x5), (6, .int x6), (7, .int x7), (8, .int x8), (9, .int x9), (11, .int x11), (12, .int x12), (13, .int x13)] [.int t0] := by
            intro t0 x2 x3 x5 x6 x7 x8 x9 x11 x12 x13 h
            refine z_iconst X (0 : Int32) dL_rung_156 (by decide) ?_
            refine z_widen (k := (c95 + 10)) (n := (s95 + 60)) (by first | exact Nat.le_of_ble_eq_true rfl | omega) (by first | exact Nat.le_of_ble_eq_true rfl | omega) ?_
            exact H157 (0 : Int32) t0 x2 x3 x5 x6 x7 x8 x9 x11 x12 x13 h
          refine z_iload X 10 dL_rung_95 rfl ?_
          refine z_iload_n X 2 dL_rung_97 rfl rfl ?_
          refine z_icmp_ge X 193 dL_rung_98 (by decide) h (fun _ h => ?_) (fun _ h => ?_)
          · refine z_widen (k := (c8 + 143)) (n := (s8 + 858)) (by omega) (by omega) ?_
            refine z_aload_n X 1 dL_rung_193 rfl rfl ?_
            refine z_iload X 4 dL_rung_194 rfl ?_
            refine z_iload X 5 dL_rung_196 rfl ?_
            refine z_iload X 6 dL_rung_198 rfl ?_
            refine z_iload X 7 dL_rung_200 rfl ?_
            obtain ⟨o25, e26, h⟩ := bnd_p h
            have f27 := bk_appP (X := OW g ax ad x) (X' := OW g ax ad x) (perm_of (n := 0) (E := []) (wc := []) (wr := []) [] [] rfl rfl rfl (by decide +kernel)) (perm_of (n := 0) (E := []) (wc := []) (wr := []) [] [] rfl rfl rfl (by decide +kernel)) rfl OW_fst
            refine z_gSH (rest := []) (ws' := ([] ++ OW g ax ad x)) X (KF_ok ev) (kc_of (KF_ok ev) (fun _ _ _ q => q) hK hA f27.1) hA k_L_classOf (c_L_classOf l hfl ev D g ad ax x5 x6 x7 x8 x o25 e26) ql_L_L_classOf dL_rung_202 f27.1 f27.2 rfl rfl ⟨Nat.le_of_ble_eq_true rfl, Nat.le_of_ble_eq_true rfl, rfl, rfl, (Nat.le_trans (m := 945) (by first | exact Nat.le_of_ble_eq_true rfl | omega) (Nat.le_of_ble_eq_true rfl)), (Nat.le_trans (m := 5670) (by first | exact Nat.le_of_ble_eq_true rfl | omega) (Nat.le_of_ble_eq_true rfl))⟩ (Nat.le_of_ble_eq_true rfl) ?_
            refine z_iload X 8 dL_rung_205 rfl ?_
            refine z_if_eq X 225 dL_rung_207 (by decide) h (fun _ h => ?_) (fun _ h => ?_)
            · refine z_bipush X ((-12) : Int32) dL_rung_225 (by decide) ?_
              refine z_widen (k := (c8 + 151)) (n := (s8 + 906)) (by first | exact Nat.le_of_ble_eq_true rfl | omega) (by first | exact Nat.le_of_ble_eq_true rfl | omega) ?_
              refine z_sub (lv' := [(0, .ref ev.b), (1, .ref (ax 0)), (2, .int x2), (3, .int x3), (5, .int x5), (7, .int x7), (8, .int x8), (9, .int x9), (10, .int x10)]) [0, 1, 2, 3, 4, 6, 7, 8, 9] rfl ?_
              exact H227 ((-12) : Int32) o25 x2 x3 x5 x7 x8 x9 x10 h
            · refine z_aload_n X 1 dL_rung_210 rfl rfl ?_
              refine z_iload X 4 dL_rung_211 rfl ?_
              refine z_iload X 5 dL_rung_213 rfl ?_
              refine z_iload X 6 dL_rung_215 rfl ?_
              refine z_iload X 7 dL_rung_217 rfl ?_
              obtain ⟨o31, e32, h⟩ := bnd_p h
              have f33 := bk_appP (X := OW g ax ad x) (X' := OW g ax ad x) (perm_of (n := 0) (E := []) (wc := []) (wr := []) [] [] rfl rfl rfl (by decide +kernel)) (perm_of (n := 0) (E := []) (wc := []) (wr := []) [] [] rfl rfl rfl (by decide +kernel)) rfl OW_fst
              refine z_gS (rest := [.int o25]) (ws' := ([] ++ OW g ax ad x)) X (KF_ok ev) (kc_of (KF_ok ev) (fun _ _ _ q => q) hK hA f33.1) hA k_L_kind (c_L_kind l hfl ev D g ad ax x5 x6 x7 x8 x o31 e32) ql_L_L_kind dL_rung_219 f33.1 f33.2 rfl rfl ⟨Nat.le_of_ble_eq_true rfl, Nat.le_of_ble_eq_true rfl, rfl, rfl, (Nat.le_trans (m := 945) (by first | exact Nat.le_of_ble_eq_true rfl | omega) (Nat.le_of_ble_eq_true rfl)), (Nat.le_trans (m := 5670) (by first | exact Nat.le_of_ble_eq_true rfl | omega) (Nat.le_of_ble_eq_true rfl))⟩ (Nat.le_of_ble_eq_true rfl) ?_
              refine z_goto X 227 dL_rung_222 (by decide) ?_
              refine z_widen (k := (c8 + 151)) (n := (s8 + 906)) (by first | exact Nat.le_of_ble_eq_true rfl | omega) (by first | exact Nat.le_of_ble_eq_true rfl | omega) ?_
              refine z_sub (lv' := [(0, .ref ev.b), (1, .ref (ax 0)), (2, .int x2), (3, .int x3), (5, .int x5), (7, .int x7), (8, .int x8), (9, .int x9), (10, .int x10)]) [0, 1, 2, 3, 4, 6, 7, 8, 9] rfl ?_
              exact H227 o31 o25 x2 x3 x5 x7 x8 x9 x10 h
          · refine z_aload_n X 1 dL_rung_101 rfl rfl ?_
            refine z_iload X 4 dL_rung_102 rfl ?_
            refine z_iload X 10 dL_rung_104 rfl ?_
            obtain ⟨o34, e35, h⟩ := bnd_p h
            have f36 := bk_appP (X := OW g ax ad x) (X' := OW g ax ad x) (perm_of (n := 0) (E := []) (wc := []) (wr := []) [] [] rfl rfl rfl (by decide +kernel)) (perm_of (n := 0) (E := []) (wc := []) (wr := []) [] [] rfl rfl rfl (by decide +kernel)) rfl OW_fst
            refine z_gS (rest := []) (ws' := ([] ++ OW g ax ad x)) X (KF_ok ev) (kc_of (KF_ok ev) (fun _ _ _ q => q) hK hA f36.1) hA k_L_areInHall (c_L_areInHall l hfl ev D g ad ax x5 x11 x o34 e35) ql_L_L_areInHall dL_rung_106 f36.1 f36.2 rfl rfl ⟨Nat.le_of_ble_eq_true rfl, Nat.le_of_ble_eq_true rfl, rfl, rfl, (Nat.le_trans (m := 945) (by first | exact Nat.le_of_ble_eq_true rfl | omega) (Nat.le_of_ble_eq_true rfl)), (Nat.le_trans (m := 5670) (by first | exact Nat.le_of_ble_eq_true rfl | omega) (Nat.le_of_ble_eq_true rfl))⟩ (Nat.le_of_ble_eq_true rfl) ?_
            refine z_istore X [(12, .int o34), (0, .ref ev.b), (1, .ref (ax 0)), (2, .int x2), (3, .int x3), (5, .int x5), (6, .int x6), (7, .int x7), (8, .int x8), (9, .int x9), (10, .int x10), (11, .int x11)] dL_rung_109 (by decide) rfl ?_
            refine z_iconst X (0 : Int32) dL_rung_111 (by decide) ?_
            refine z_iload X 7 dL_rung_112 rfl ?_
            refine z_aload_n X 2 dL_rung_114 rfl rfl ?_
            refine z_iload X 5 dL_rung_115 rfl ?_
            refine z_iconst X (0 : Int32) dL_rung_117 (by decide) ?_
            obtain ⟨o37, e38, h⟩ := bnd_p h
            have f39 := bk_appP (X := OW g ax ad x) (X' := OW g ax ad x) (perm_of (n := 0) (E := []) (wc := []) (wr := []) [] [] rfl rfl rfl (by decide +kernel)) (perm_of (n := 0) (E := []) (wc := []) (wr := []) [] [] rfl rfl rfl (by decide +kernel)) rfl OW_fst
            refine z_gSH (rest := [.int x7, .int (0 : Int32)]) (ws' := ([] ++ OW g ax ad x)) X (KF_ok ev) (kc_of (KF_ok ev) (fun _ _ _ q => q) hK hA f39.1) hA k_L_of (c_L_of l hfl ev D g ad ax x5 (0 : Int32) x o37 e38) ql_L_L_of dL_rung_118 f39.1 f39.2 rfl rfl ⟨Nat.le_of_ble_eq_true rfl, Nat.le_of_ble_eq_true rfl, rfl, rfl, (Nat.le_trans (m := 945) (by first | exact Nat.le_of_ble_eq_true rfl | omega) (Nat.le_of_ble_eq_true rfl)), (Nat.le_trans (m := 5670) (by first | exact Nat.le_of_ble_eq_true rfl | omega) (Nat.le_of_ble_eq_true rfl))⟩ (Nat.le_of_ble_eq_true rfl) ?_
            refine z_aload_n X 2 dL_rung_121 rfl rfl ?_
            refine z_iload X 11 dL_rung_122 rfl ?_
            refine z_iconst X (0 : Int32) dL_rung_124 (by decide) ?_
            obtain ⟨o40, e41, h⟩ := bnd_p h
            have f42 := bk_appP (X := OW g ax ad x) (X' := OW g ax ad x) (perm_of (n := 0) (E := []) (wc := []) (wr := []) [] [] rfl rfl rfl (by decide +kernel)) (perm_of (n := 0) (E := []) (wc := []) (wr := []) [] [] rfl rfl rfl (by decide +kernel)) rfl OW_fst
            refine z_gSH (rest := [.int o37, .int x7, .int (0 : Int32)]) (ws' := ([] ++ OW g ax ad x)) X (KF_ok ev) (kc_of (KF_ok ev) (fun _ _ _ q => q) hK hA f42.1) hA k_L_of (c_L_of l hfl ev D g ad ax x11 (0 : Int32) x o40 e41) ql_L_L_of dL_rung_125 f42.1 f42.2 rfl rfl ⟨Nat.le_of_ble_eq_true rfl, Nat.le_of_ble_eq_true rfl, rfl, rfl, (Nat.le_trans (m := 945) (by first | exact Nat.le_of_ble_eq_true rfl | omega) (Nat.le_of_ble_eq_true rfl)), (Nat.le_trans (m := 5670) (by first | exact Nat.le_of_ble_eq_true rfl | omega) (Nat.le_of_ble_eq_true rfl))⟩ (Nat.le_of_ble_eq_true rfl) ?_
            obtain ⟨o43, e44, h⟩ := bnd_p h
            have f45 : bkc ([] ++ OW g ax ad x) [] ∧ bk ([] ++ OW g ax ad x) ([] ++ OW g ax ad x) [] [] := ⟨bkc_nil, bk_nil⟩
            refine z_gS (rest := [.int x7, .int (0 : Int32)]) (ws' := ([] ++ OW g ax ad x)) X (KF_ok ev) (kc_of (KF_ok ev) (fun _ _ _ q => q) hK hA f45.1) hA k_L_far (c_L_far l hfl ev D g o37 o40 o43 e44) ql_L_L_far dL_rung_128 f45.1 f45.2 rfl rfl ⟨Nat.le_of_ble_eq_true rfl, Nat.le_of_ble_eq_true rfl, rfl, rfl, (Nat.le_trans (m := 945) (by first | exact Nat.le_of_ble_eq_true rfl | omega) (Nat.le_of_ble_eq_true rfl)), (Nat.le_trans (m := 5670) (by first | exact Nat.le_of_ble_eq_true rfl | omega) (Nat.le_of_ble_eq_true rfl))⟩ (Nat.le_of_ble_eq_true rfl) ?_
            refine z_isub X dL_rung_131 ?_
            refine z_mmax X ql_L_mmax dL_rung_132 (Nat.le_of_ble_eq_true rfl) (Nat.le_of_ble_eq_true rfl) (Nat.le_trans (m := 945) (by first | exact Nat.le_of_ble_eq_true rfl | omega) (Nat.le_of_ble_eq_true rfl)) (Nat.le_trans (m := 5670) (by first | exact Nat.le_of_ble_eq_true rfl | omega) (Nat.le_of_ble_eq_true rfl)) ?_
            refine z_istore X [(13, .int (if (0 : Int32) < (x7 - o43) then (x7 - o43) else (0 : Int32))), (12, .int o34), (0, .ref ev.b), (1, .ref (ax 0)), (2, .int x2), (3, .int x3), (5, .int x5), (6, .int x6), (7, .int x7), (8, .int x8), (9, .int x9), (10, .int x10), (11, .int x11)] dL_rung_135 (by decide) rfl ?_
            refine z_iload X 11 dL_rung_137 rfl ?_
            refine z_iload X 1 dL_rung_139 rfl ?_
            refine z_if_eq X 156 dL_rung_141 (by decide) h (fun _ h => ?_) (fun _ h => ?_)
            · refine z_widen (k := (c95 + 10)) (n := (s95 + 60)) (by first | exact Nat.le_of_ble_eq_true rfl | omega) (by first | exact Nat.le_of_ble_eq_true rfl | omega) ?_
              refine z_sub (lv' := [(0, .ref ev.b), (1, .ref (ax 0)), (2, .int x2), (3, .int x3), (5, .int x5), (6, .int x6), (7, .int x7), (8, .int x8), (9, .int x9), (11, .int x11), (12, .int o34), (13, .int (if (0 : Int32) < (x7 - o43) then (x7 - o43) else (0 : Int32)))]) [2, 3, 4, 5, 6, 7, 8, 9, 10, 12, 1, 0] rfl ?_
              exact H156 x10 x2 x3 x5 x6 x7 x8 x9 x11 o34 (if (0 : Int32) < (x7 - o43) then (x7 - o43) else (0 : Int32)) h
            · refine z_iload X 0 dL_rung_144 rfl ?_
              refine z_iload X 9 dL_rung_146 rfl ?_
              refine z_iadd X dL_rung_148 ?_
              refine z_if_le X 156 dL_rung_149 (by decide) h (fun _ h => ?_) (fun _ h => ?_)
              · refine z_widen (k := (c95 + 10)) (n := (s95 + 60)) (by first | exact Nat.le_of_ble_eq_true rfl | omega) (by first | exact Nat.le_of_ble_eq_true rfl | omega) ?_
                refine z_sub (lv' := [(0, .ref ev.b), (1, .ref (ax 0)), (2, .int x2), (3, .int x3), (5, .int x5), (6, .int x6), (7, .int x7), (8, .int x8), (9, .int x9), (11, .int x11), (12, .int o34), (13, .int (if (0 : Int32) < (x7 - o43) then (x7 - o43) else (0 : Int32)))]) [2, 3, 4, 5, 6, 7, 8, 9, 10, 12, 1, 0] rfl ?_
                exact H156 x10 x2 x3 x5 x6 x7 x8 x9 x11 o34 (if (0 : Int32) < (x7 - o43) then (x7 - o43) else (0 : Int32)) h
              · refine z_iconst X (1 : Int32) dL_rung_152 (by decide) ?_
                refine z_goto X 157 dL_rung_153 (by decide) ?_
                refine z_widen (k := (c95 + 10)) (n := (s95 + 60)) (by first | exact Nat.le_of_ble_eq_true rfl | omega) (by first | exact Nat.le_of_ble_eq_true rfl | omega) ?_
                refine z_sub (lv' := [(0, .ref ev.b), (1, .ref (ax 0)), (2, .int x2), (3, .int x3), (5, .int x5), (6, .int x6), (7, .int x7), (8, .int x8), (9, .int x9), (11, .int x11), (12, .int o34), (13, .int (if (0 : Int32) < (x7 - o43) then (x7 - o43) else (0 : Int32)))]) [2, 3, 4, 5, 6, 7, 8, 9, 10, 12, 1, 0] rfl ?_
                exact H157 (1 : Int32) x10 x2 x3 x5 x6 x7 x8 x9 x11 o34 (if (0 : Int32) < (x7 - o43) then (x7 - o43) else (0 : Int32)) h
      have H87 : ∀ (t0 : Int32) (x2 : Int32) (x3 : Int32) (x5 : Int32) (x6 : Int32) (x7 : Int32) (x8 : Int32), J_L_rung_87 ev.L ev.xs x (L_L_rung_8 ev.L ev.xs x n8) t0 x2 x3 x5 x6 x7 x8 = some o → Z p l e { frames := 12, cells := 945, slots := 5670, locals := 224 } s m args below meth c Q 14 (c8 + 0) (s8 + 0) (IW D A s ([] ++ OW g ax ad x)) 87 [(0, .ref ev.b), (1, .ref (ax 0)), (2, .int x2), (3, .int x3), (5, .int x5), (6, .int x6), (7, .int x7), (8, .int x8)] [.int t0] := by
        intro t0 x2 x3 x5 x6 x7 x8 h
        refine z_istore X [(9, .int t0), (0, .ref ev.b), (1, .ref (ax 0)), (2, .int x2), (3, .int x3), (5, .int x5), (6, .int x6), (7, .int x7), (8, .int x8)] dL_rung_87 (by decide) rfl ?_
        refine z_iconst X (1 : Int32) dL_rung_89 (by decide) ?_
        refine z_istore X [(10, .int (1 : Int32)), (9, .int t0), (0, .ref ev.b), (1, .ref (ax 0)), (2, .int x2), (3, .int x3), (5, .int x5), (6, .int x6), (7, .int x7), (8, .int x8)] dL_rung_90 (by decide) rfl ?_
        refine z_iconst X (0 : Int32) dL_rung_92 (by decide) ?_
        refine z_istore X [(11, .int (0 : Int32)), (10, .int (1 : Int32)), (9, .int t0), (0, .ref ev.b), (1, .ref (ax 0)), (2, .int x2), (3, .int x3), (5, .int x5), (6, .int x6), (7, .int x7), (8, .int x8)] dL_rung_93 (by decide) rfl ?_
        refine z_sub (lv' := [(0, .ref ev.b), (1, .ref (ax 0)), (2, .int x2), (3, .int x3), (5, .int x5), (6, .int x6), (7, .int x7), (8, .int x8), (9, .int t0), (10, .int (1 : Int32)), (11, .int (0 : Int32))]) [3, 4, 5, 6, 7, 8, 9, 10, 2, 1, 0] rfl ?_
        exact H95 11 x2 x3 x5 x6 x7 x8 t0 (1 : Int32) (0 : Int32) _ _ (by first | exact Nat.le_of_ble_eq_true rfl | omega) (by first | exact Nat.le_of_ble_eq_true rfl | omega) h
      have H71 : ∀ (t0 : Int32) (t1 : Int32) (x2 : Int32) (x3 : Int32) (x5 : Int32) (x6 : Int32) (x7 : Int32), J_L_rung_71 ev.L ev.xs x (L_L_rung_8 ev.L ev.xs x n8) t0 t1 x2 x3 x5 x6 x7 = some o → Z p l e { frames := 12, cells := 945, slots := 5670, locals := 224 } s m args below meth c Q 14 (c8 + 0) (s8 + 0) (IW D A s ([] ++ OW g ax ad x)) 71 [(0, .ref ev.b), (1, .ref (ax 0)), (2, .int x2), (3, .int x3), (5, .int x5), (6, .int x6), (7, .int x7)] [.int t0, .int t1] := by
        intro t0 t1 x2 x3 x5 x6 x7 h
        refine z_iremG X dL_rung_71 h (fun h => ?_)
        refine z_istore X [(8, .int (t1 - t1 / t0 * t0)), (0, .ref ev.b), (1, .ref (ax 0)), (2, .int x2), (3, .int x3), (5, .int x5), (6, .int x6), (7, .int x7)] dL_rung_72 (by decide) rfl ?_
        refine z_iload X 7 dL_rung_74 rfl ?_
        refine z_iload X 0 dL_rung_76 rfl ?_
        refine z_iadd X dL_rung_78 ?_
        refine z_if_le X 86 dL_rung_79 (by decide) h (fun _ h => ?_) (fun _ h => ?_)
        · refine z_iconst X (0 : Int32) dL_rung_86 (by decide) ?_
          refine z_widen (k := (c8 + 0)) (n := (s8 + 0)) (by first | exact Nat.le_of_ble_eq_true rfl | omega) (by first | exact Nat.le_of_ble_eq_true rfl | omega) ?_
          refine z_sub (lv' := [(0, .ref ev.b), (1, .ref (ax 0)), (2, .int x2), (3, .int x3), (5, .int x5), (6, .int x6), (7, .int x7), (8, .int (t1 - t1 / t0 * t0))]) [1, 2, 3, 4, 5, 6, 7, 0] rfl ?_
          exact H87 (0 : Int32) x2 x3 x5 x6 x7 (t1 - t1 / t0 * t0) h
        · refine z_iconst X (1 : Int32) dL_rung_82 (by decide) ?_
          refine z_goto X 87 dL_rung_83 (by decide) ?_
          refine z_widen (k := (c8 + 0)) (n := (s8 + 0)) (by first | exact Nat.le_of_ble_eq_true rfl | omega) (by first | exact Nat.le_of_ble_eq_true rfl | omega) ?_
          refine z_sub (lv' := [(0, .ref ev.b), (1, .ref (ax 0)), (2, .int x2), (3, .int x3), (5, .int x5), (6, .int x6), (7, .int x7), (8, .int (t1 - t1 / t0 * t0))]) [1, 2, 3, 4, 5, 6, 7, 0] rfl ?_
          exact H87 (1 : Int32) x2 x3 x5 x6 x7 (t1 - t1 / t0 * t0) h
      refine z_iload_n X 3 dL_rung_8 rfl rfl ?_
      refine z_iconst X (5 : Int32) dL_rung_9 (by decide) ?_
      refine z_icmp_ge X 263 dL_rung_10 (by decide) h (fun _ h => ?_) (fun _ h => ?_)
      · refine z_widen (k := 925) (n := 5550) (by omega) (by omega) ?_
        refine z_widen (k := 925) (n := 5550) (by first | exact Nat.le_of_ble_eq_true rfl | omega) (by first | exact Nat.le_of_ble_eq_true rfl | omega) ?_
        refine z_sub (lv' := [(1, .ref (ax 0)), (2, .int x2)]) [1, 2] rfl ?_
        exact H263 x2 h
      · refine z_iload_n X 2 dL_rung_13 rfl rfl ?_
        refine z_if_le X 263 dL_rung_14 (by decide) h (fun _ h => ?_) (fun _ h => ?_)
        · refine z_widen (k := 925) (n := 5550) (by omega) (by omega) ?_
          refine z_widen (k := 925) (n := 5550) (by first | exact Nat.le_of_ble_eq_true rfl | omega) (by first | exact Nat.le_of_ble_eq_true rfl | omega) ?_
          refine z_sub (lv' := [(1, .ref (ax 0)), (2, .int x2)]) [1, 2] rfl ?_
          exact H263 x2 h
        · refine z_aload_n X 0 dL_rung_17 rfl rfl ?_
          refine z_bipush X (24 : Int32) dL_rung_18 (by decide) ?_
          refine z_iload_n X 3 dL_rung_20 rfl rfl ?_
          refine z_iadd X dL_rung_21 ?_
          obtain ⟨o22, e23, h⟩ := bnd_p h
          have f24 : bkc ([] ++ OW g ax ad x) [] ∧ bk ([] ++ OW g ax ad x) ([] ++ OW g ax ad x) [] [] := ⟨bkc_nil, bk_nil⟩
          refine z_gS (rest := []) (ws' := ([] ++ OW g ax ad x)) X (KF_ok ev) (kc_of (KF_ok ev) (fun _ _ _ q => q) hK hA f24.1) hA k_L_cell (c_L_cell l hfl ev D g ((24 : Int32) + x3) o22 e23) ql_L_L_cell dL_rung_22 f24.1 f24.2 rfl rfl ⟨Nat.le_of_ble_eq_true rfl, Nat.le_of_ble_eq_true rfl, rfl, rfl, (Nat.le_trans (m := 945) (by first | exact Nat.le_of_ble_eq_true rfl | omega) (Nat.le_of_ble_eq_true rfl)), (Nat.le_trans (m := 5670) (by first | exact Nat.le_of_ble_eq_true rfl | omega) (Nat.le_of_ble_eq_true rfl))⟩ (Nat.le_of_ble_eq_true rfl) ?_
          refine z_iconst X (1 : Int32) dL_rung_25 (by decide) ?_
          refine z_iushr X dL_rung_26 ?_
          refine z_istore X [(4, .int (ushr o22 (1 : Int32))), (0, .ref ev.b), (1, .ref (ax 0)), (2, .int x2), (3, .int x3)] dL_rung_27 (by decide) rfl ?_
          refine z_iload X 0 dL_rung_29 rfl ?_
          refine z_iload_n X 3 dL_rung_31 rfl rfl ?_
          refine z_iremG X dL_rung_32 h (fun h => ?_)
          refine z_istore X [(5, .int ((ushr o22 (1 : Int32)) - (ushr o22 (1 : Int32)) / x2 * x2)), (4, .int (ushr o22 (1 : Int32))), (0, .ref ev.b), (1, .ref (ax 0)), (2, .int x2), (3, .int x3)] dL_rung_33 (by decide) rfl ?_
          refine z_iload X 1 dL_rung_35 rfl ?_
          refine z_iconst X (4 : Int32) dL_rung_37 (by decide) ?_
          refine z_iushr X dL_rung_38 ?_
          refine z_bipush X (24 : Int32) dL_rung_39 (by decide) ?_
          refine z_irem X dL_rung_41 (by decide) ?_
          refine z_istore X [(6, .int ((ushr (ushr o22 (1 : Int32)) (4 : Int32)) - (ushr (ushr o22 (1 : Int32)) (4 : Int32)) / (24 : Int32) * (24 : Int32))), (5, .int ((ushr o22 (1 : Int32)) - (ushr o22 (1 : Int32)) / x2 * x2)), (4, .int (ushr o22 (1 : Int32))), (0, .ref ev.b), (1, .ref (ax 0)), (2, .int x2), (3, .int x3)] dL_rung_42 (by decide) rfl ?_
          refine z_iload X 2 dL_rung_44 rfl ?_
          refine z_bipush X (9 : Int32) dL_rung_46 (by decide) ?_
          refine z_iushr X dL_rung_48 ?_
          refine z_bipush X (10 : Int32) dL_rung_49 (by decide) ?_
          refine z_irem X dL_rung_51 (by decide) ?_
          refine z_istore X [(7, .int ((ushr (ushr o22 (1 : Int32)) (9 : Int32)) - (ushr (ushr o22 (1 : Int32)) (9 : Int32)) / (10 : Int32) * (10 : Int32))), (6, .int ((ushr (ushr o22 (1 : Int32)) (4 : Int32)) - (ushr (ushr o22 (1 : Int32)) (4 : Int32)) / (24 : Int32) * (24 : Int32))), (5, .int ((ushr o22 (1 : Int32)) - (ushr o22 (1 : Int32)) / x2 * x2)), (4, .int (ushr o22 (1 : Int32))), (0, .ref ev.b), (1, .ref (ax 0)), (2, .int x2), (3, .int x3)] dL_rung_52 (by decide) rfl ?_
          refine z_iload X 3 dL_rung_54 rfl ?_
          refine z_bipush X (13 : Int32) dL_rung_56 (by decide) ?_
          refine z_iushr X dL_rung_58 ?_
          refine z_iload_n X 7 dL_rung_59 rfl rfl ?_
          refine z_iconst X (2 : Int32) dL_rung_60 (by decide) ?_
          refine z_irem X dL_rung_61 (by decide) ?_
          refine z_if_ne X 70 dL_rung_62 (by decide) h (fun _ h => ?_) (fun _ h => ?_)
          · refine z_bipush X (10 : Int32) dL_rung_65 (by decide) ?_
            refine z_goto X 71 dL_rung_67 (by decide) ?_
            refine z_widen (k := (c8 + 0)) (n := (s8 + 0)) (by first | exact Nat.le_of_ble_eq_true rfl | omega) (by first | exact Nat.le_of_ble_eq_true rfl | omega) ?_
            refine z_sub (lv' := [(0, .ref ev.b), (1, .ref (ax 0)), (2, .int x2), (3, .int x3), (5, .int ((ushr o22 (1 : Int32)) - (ushr o22 (1 : Int32)) / x2 * x2)), (6, .int ((ushr (ushr o22 (1 : Int32)) (4 : Int32)) - (ushr (ushr o22 (1 : Int32)) (4 : Int32)) / (24 : Int32) * (24 : Int32))), (7, .int ((ushr (ushr o22 (1 : Int32)) (9 : Int32)) - (ushr (ushr o22 (1 : Int32)) (9 : Int32)) / (10 : Int32) * (10 : Int32)))]) [4, 5, 6, 7, 2, 1, 0] rfl ?_
            exact H71 (10 : Int32) (ushr (ushr o22 (1 : Int32)) (13 : Int32)) x2 x3 ((ushr o22 (1 : Int32)) - (ushr o22 (1 : Int32)) / x2 * x2) ((ushr (ushr o22 (1 : Int32)) (4 : Int32)) - (ushr (ushr o22 (1 : Int32)) (4 : Int32)) / (24 : Int32) * (24 : Int32)) ((ushr (ushr o22 (1 : Int32)) (9 : Int32)) - (ushr (ushr o22 (1 : Int32)) (9 : Int32)) / (10 : Int32) * (10 : Int32)) h
          · refine z_iconst X (2 : Int32) dL_rung_70 (by decide) ?_
            refine z_widen (k := (c8 + 0)) (n := (s8 + 0)) (by first | exact Nat.le_of_ble_eq_true rfl | omega) (by first | exact Nat.le_of_ble_eq_true rfl | omega) ?_
            refine z_sub (lv' := [(0, .ref ev.b), (1, .ref (ax 0)), (2, .int x2), (3, .int x3), (5, .int ((ushr o22 (1 : Int32)) - (ushr o22 (1 : Int32)) / x2 * x2)), (6, .int ((ushr (ushr o22 (1 : Int32)) (4 : Int32)) - (ushr (ushr o22 (1 : Int32)) (4 : Int32)) / (24 : Int32) * (24 : Int32))), (7, .int ((ushr (ushr o22 (1 : Int32)) (9 : Int32)) - (ushr (ushr o22 (1 : Int32)) (9 : Int32)) / (10 : Int32) * (10 : Int32)))]) [4, 5, 6, 7, 2, 1, 0] rfl ?_
            exact H71 (2 : Int32) (ushr (ushr o22 (1 : Int32)) (13 : Int32)) x2 x3 ((ushr o22 (1 : Int32)) - (ushr o22 (1 : Int32)) / x2 * x2) ((ushr (ushr o22 (1 : Int32)) (4 : Int32)) - (ushr (ushr o22 (1 : Int32)) (4 : Int32)) / (24 : Int32) * (24 : Int32)) ((ushr (ushr o22 (1 : Int32)) (9 : Int32)) - (ushr (ushr o22 (1 : Int32)) (9 : Int32)) / (10 : Int32) * (10 : Int32)) h
  refine z_aload_n X 1 dL_rung_0 rfl rfl ?_
  refine z_iconst X (2 : Int32) dL_rung_1 (by decide) ?_
  obtain ⟨o1, e2, h⟩ := bnd_p h
  obtain ⟨hz3, h⟩ := grd_p h
  obtain ⟨wco1, wdo1, hNo1, bo1, do1, xo1⟩ := nx_account l hfl ev.ak ev.av ev.aS D g ad ax (2 : Int32) x o1.1 o1.2.1 o1.2.2 e2
  rw [xo1] at do1
  have fo1 := bk_E (E := []) bo1 do1
  refine z_exV (rest := []) (q0 := 0) (ci := 11) (ws' := ([] ++ OW g ax ad x)) X hK.1 hA k_X11_account hNo1 ql_L_X11_account dL_rung_2 fo1.1 fo1.2 rfl rfl rfl rfl rfl ⟨Nat.le_of_ble_eq_true rfl, Nat.le_of_ble_eq_true rfl, rfl, rfl, (Nat.le_trans (m := 945) (by first | exact Nat.le_of_ble_eq_true rfl | omega) (Nat.le_of_ble_eq_true rfl)), (Nat.le_trans (m := 5670) (by first | exact Nat.le_of_ble_eq_true rfl | omega) (Nat.le_of_ble_eq_true rfl))⟩ (Nat.le_of_ble_eq_true rfl) (fun _ => ?_) (fun q => absurd hz3 q)
  refine z_istore_n X [(2, .int o1.2.1), (0, .ref ev.b), (1, .ref (ax 0))] dL_rung_5 rfl (by decide) rfl ?_
  refine z_iconst X (0 : Int32) dL_rung_6 (by decide) ?_
  refine z_istore_n X [(3, .int (0 : Int32)), (2, .int o1.2.1), (0, .ref ev.b), (1, .ref (ax 0))] dL_rung_7 rfl (by decide) rfl ?_
  refine z_sub (lv' := [(0, .ref ev.b), (1, .ref (ax 0)), (2, .int o1.2.1), (3, .int (0 : Int32))]) [2, 3, 1, 0] rfl ?_
  exact H8 6 o1.2.1 (0 : Int32) _ _ (by first | exact Nat.le_of_ble_eq_true rfl | omega) (by first | exact Nat.le_of_ble_eq_true rfl | omega) h
