def J_L_slept_390 (x : XVal) (x1 : Int32) : Option (Int32) :=
  bnd (F_L_asleep (24 : Int32) (1 : Int32) x) (fun o31 => brn (o31 = ((-12) : Int32)) (bnd (F_L_of x1 (9 : Int32) x) (fun o34 => brn (o34 = ((-11) : Int32)) (bnd (F_L_rings (4 : Int32) x) (fun o37 => brn (o37 = ((-12) : Int32)) (bnd (G_account (0 : Int32) x) (fun o40 => grd (o40.1 = 0) (brn ((24 : Int32) ≤ o40.2.1) (none) (some ((1 : Int32)))))) (none))) (none))) (none))

def J_L_slept_324 (x : XVal) (x1 : Int32) (x5 : Int32) (x6 : Int32) (x7 : Int32) : Option (Int32) :=
  bnd (G_account (7 : Int32) x) (fun o19 => grd (o19.1 = 0) (bnd (G_account (8 : Int32) x) (fun o22 => grd (o22.1 = 0) (brn (x7 = (o19.2.1 + o22.2.1)) (brn (x6 = x7) (bnd (F_L_rings (3 : Int32) x) (fun o25 => brn (x5 = o25) (bnd (G_account (9 : Int32) x) (fun o28 => grd (o28.1 = 0) (brn (x5 < o28.2.1) (none) (brn (x7 = 0) (J_L_slept_390 x x1) (bnd (G_prankShare x) (fun o43 => grd (o43.1 = 0) (grd (FP.fdiv (FP.i2f x5) (FP.i2f x7) &&& 0x7fffffff ≤ 0x7f800000) (brn ((Op.cmpValue (FP.fcmp o43.2.1 (FP.fdiv (FP.i2f x5) (FP.i2f x7))) .l) = 0) (J_L_slept_390 x x1) (none))))))))) (none))) (none)) (none)))))

def J_L_slept_303 (x : XVal) (t0 : Int32) (t1 : Int32) (x1 : Int32) (x4 : Int32) (x5 : Int32) (x6 : Int32) (x7 : Int32) : Option (Int32) :=
  brn (t1 = t0) (brn (x1 = 0) (J_L_slept_324 x x1 x5 x6 x7) (bnd (G_meanSleep x) (fun o47 => grd (o47.1 = 0) (grd (FP.ddiv (FP.i2d x4) (FP.i2d x1) &&& 0x7fffffffffffffff ≤ 0x7ff0000000000000) (brn ((Op.cmpValue (FP.dcmp o47.2.1 (FP.ddiv (FP.i2d x4) (FP.i2d x1))) .l) = 0) (J_L_slept_324 x x1 x5 x6 x7) (none)))))) (none)

def J_L_slept_240 (x : XVal) (r130 : Int32 → Int32 → Int32 → Int32 → Int32 → Int32 → Int32 → Option (Int32)) (t0 : Int32) (t1 : Int32) (x1 : Int32) (x2 : Int32) (x3 : Int32) (x4 : Int32) (x5 : Int32) (x6 : Int32) (x7 : Int32) : Option (Int32) :=
  brn (t1 = t0) (bnd (F_L_of x7 (8 : Int32) x) (fun o69 => brn (o69 = ((-12) : Int32)) (r130 x1 x2 x3 x4 x5 x6 (x7 + 1)) (none))) (none)

def J_L_slept_167 (x : XVal) (r130 : Int32 → Int32 → Int32 → Int32 → Int32 → Int32 → Int32 → Option (Int32)) (r142 : Int32 → Int32 → Int32 → Int32 → Int32 → Int32 → Int32 → Int32 → Int32 → Option (Int32)) (t0 : Int32) (t1 : Int32) (x1 : Int32) (x2 : Int32) (x3 : Int32) (x4 : Int32) (x5 : Int32) (x6 : Int32) (x7 : Int32) (x9 : Int32) : Option (Int32) :=
  r142 x1 x2 x3 x4 x5 x6 x7 (t1 + t0) (x9 + 1)

def L_L_slept_142 (x : XVal) (r130 : Int32 → Int32 → Int32 → Int32 → Int32 → Int32 → Int32 → Option (Int32)) : Nat → Int32 → Int32 → Int32 → Int32 → Int32 → Int32 → Int32 → Int32 → Int32 → Option (Int32)
  | 0, _, _, _, _, _, _, _, _, _ => none
  | _n + 1, x1, x2, x3, x4, x5, x6, x7, x8, x9 =>
    brn ((24 : Int32) ≤ x9) (bnd (F_L_of x7 (4 : Int32) x) (fun o51 => bnd (F_L_of x7 (3 : Int32) x) (fun o54 => bnd (F_L_of x7 (7 : Int32) x) (fun o57 => brn (o57 = x8) (bnd (F_L_of x7 (6 : Int32) x) (fun o60 => bnd (G_account (0 : Int32) x) (fun o63 => grd (o63.1 = 0) (bnd (F_L_sleeps x7 o63.2.1 x) (fun o66 => brn (o66 = 0) (J_L_slept_240 x (r130) (0 : Int32) o60 x1 x2 x3 x4 (x5 + o51) (x6 + o54) x7) (J_L_slept_240 x (r130) (1 : Int32) o60 x1 x2 x3 x4 (x5 + o51) (x6 + o54) x7)))))) (none))))) (bnd (F_L_sleeps x7 x9 x) (fun o72 => brn (o72 = 0) (J_L_slept_167 x (r130) (L_L_slept_142 x r130 _n) (0 : Int32) x8 x1 x2 x3 x4 x5 x6 x7 x9) (J_L_slept_167 x (r130) (L_L_slept_142 x r130 _n) (1 : Int32) x8 x1 x2 x3 x4 x5 x6 x7 x9)))

def L_L_slept_130 (x : XVal) : Nat → Int32 → Int32 → Int32 → Int32 → Int32 → Int32 → Int32 → Option (Int32)
  | 0, _, _, _, _, _, _, _ => none
  | _n + 1, x1, x2, x3, x4, x5, x6, x7 =>
    brn (x1 ≤ x7) (bnd (F_L_rings (0 : Int32) x) (fun o4 => bnd (F_L_rings (1 : Int32) x) (fun o7 => bnd (F_L_rings (2 : Int32) x) (fun o10 => bnd (F_L_rings (3 : Int32) x) (fun o13 => bnd (F_L_deepest x) (fun o16 => brn (x3 = 0) (J_L_slept_303 x ((-13) : Int32) o16 x1 x4 x5 x6 (((o4 + o7) + o10) + o13)) (J_L_slept_303 x x2 o16 x1 x4 x5 x6 (((o4 + o7) + o10) + o13)))))))) (L_L_slept_142 x (L_L_slept_130 x _n) 25 x1 x2 x3 x4 x5 x6 x7 (0 : Int32) (0 : Int32))

def J_L_slept_81 (x : XVal) (r16 : Int32 → Int32 → Int32 → Int32 → Int32 → Option (Int32)) (t0 : Int32) (x1 : Int32) (x3 : Int32) (x4 : Int32) (x5 : Int32) (x6 : Int32) : Option (Int32) :=
  bnd (F_L_asleep x5 (0 : Int32) x) (fun o75 => brn (o75 = x6) (bnd (F_L_asleep x5 (1 : Int32) x) (fun o78 => brn (o78 = x6) (r16 x1 t0 (if x3 < x6 then x6 else x3) x4 (x5 + 1)) (none))) (none))

def J_L_slept_53 (x : XVal) (r16 : Int32 → Int32 → Int32 → Int32 → Int32 → Option (Int32)) (r29 : Int32 → Int32 → Int32 → Int32 → Int32 → Int32 → Int32 → Option (Int32)) (t0 : Int32) (t1 : Int32) (x1 : Int32) (x2 : Int32) (x3 : Int32) (x4 : Int32) (x5 : Int32) (x7 : Int32) : Option (Int32) :=
  r29 x1 x2 x3 x4 x5 (t1 + t0) (x7 + 1)

def L_L_slept_29 (x : XVal) (r16 : Int32 → Int32 → Int32 → Int32 → Int32 → Option (Int32)) : Nat → Int32 → Int32 → Int32 → Int32 → Int32 → Int32 → Int32 → Option (Int32)
  | 0, _, _, _, _, _, _, _ => none
  | _n + 1, x1, x2, x3, x4, x5, x6, x7 =>
    brn (x1 ≤ x7) (brn (x6 ≤ x3) (J_L_slept_81 x (r16) x2 x1 x3 (x4 + x6) x5 x6) (J_L_slept_81 x (r16) x5 x1 x3 (x4 + x6) x5 x6)) (bnd (F_L_sleeps x7 x5 x) (fun o81 => brn (o81 = 0) (J_L_slept_53 x (r16) (L_L_slept_29 x r16 _n) (0 : Int32) x6 x1 x2 x3 x4 x5 x7) (J_L_slept_53 x (r16) (L_L_slept_29 x r16 _n) (1 : Int32) x6 x1 x2 x3 x4 x5 x7)))

def L_L_slept_16 (x : XVal) : Nat → Int32 → Int32 → Int32 → Int32 → Int32 → Option (Int32)
  | 0, _, _, _, _, _ => none
  | _n + 1, x1, x2, x3, x4, x5 =>
    brn ((24 : Int32) ≤ x5) (L_L_slept_130 x 11 x1 x2 x3 x4 (0 : Int32) (0 : Int32) (0 : Int32)) (L_L_slept_29 x (L_L_slept_16 x _n) 11 x1 x2 x3 x4 x5 (0 : Int32) (0 : Int32))

def F_L_slept (x : XVal) : Option (Int32) :=
  bnd (G_account (2 : Int32) x) (fun o1 => grd (o1.1 = 0) (L_L_slept_16 x 25 o1.2.1 ((-1) : Int32) (0 : Int32) (0 : Int32) (0 : Int32)))

theorem dL_slept_0 : decode cL_slept 0 = .ok (.aload_n 0, 1) := by decide +kernel
theorem dL_slept_1 : decode cL_slept 1 = .ok (.iconst 2, 1) := by decide +kernel
theorem dL_slept_2 : decode cL_slept 2 = .ok (.invokevirtual 162, 3) := by decide +kernel
theorem dL_slept_5 : decode cL_slept 5 = .ok (.istore_n 1, 1) := by decide +kernel
theorem dL_slept_6 : decode cL_slept 6 = .ok (.iconst (-1), 1) := by decide +kernel
theorem dL_slept_7 : decode cL_slept 7 = .ok (.istore_n 2, 1) := by decide +kernel
theorem dL_slept_8 : decode cL_slept 8 = .ok (.iconst 0, 1) := by decide +kernel
theorem dL_slept_9 : decode cL_slept 9 = .ok (.istore_n 3, 1) := by decide +kernel
theorem dL_slept_10 : decode cL_slept 10 = .ok (.iconst 0, 1) := by decide +kernel
theorem dL_slept_11 : decode cL_slept 11 = .ok (.istore 4, 2) := by decide +kernel
theorem dL_slept_13 : decode cL_slept 13 = .ok (.iconst 0, 1) := by decide +kernel
theorem dL_slept_14 : decode cL_slept 14 = .ok (.istore 5, 2) := by decide +kernel
theorem dL_slept_16 : decode cL_slept 16 = .ok (.iload 5, 2) := by decide +kernel
theorem dL_slept_18 : decode cL_slept 18 = .ok (.bipush 24, 2) := by decide +kernel
theorem dL_slept_20 : decode cL_slept 20 = .ok (.if_icmp .ge 101, 3) := by decide +kernel
theorem dL_slept_23 : decode cL_slept 23 = .ok (.iconst 0, 1) := by decide +kernel
theorem dL_slept_24 : decode cL_slept 24 = .ok (.istore 6, 2) := by decide +kernel
theorem dL_slept_26 : decode cL_slept 26 = .ok (.iconst 0, 1) := by decide +kernel
theorem dL_slept_27 : decode cL_slept 27 = .ok (.istore 7, 2) := by decide +kernel
theorem dL_slept_29 : decode cL_slept 29 = .ok (.iload 7, 2) := by decide +kernel
theorem dL_slept_31 : decode cL_slept 31 = .ok (.iload_n 1, 1) := by decide +kernel
theorem dL_slept_32 : decode cL_slept 32 = .ok (.if_icmp .ge 30, 3) := by decide +kernel
theorem dL_slept_35 : decode cL_slept 35 = .ok (.iload 6, 2) := by decide +kernel
theorem dL_slept_37 : decode cL_slept 37 = .ok (.aload_n 0, 1) := by decide +kernel
theorem dL_slept_38 : decode cL_slept 38 = .ok (.iload 7, 2) := by decide +kernel
theorem dL_slept_40 : decode cL_slept 40 = .ok (.iload 5, 2) := by decide +kernel
theorem dL_slept_42 : decode cL_slept 42 = .ok (.invokestatic 180, 3) := by decide +kernel
theorem dL_slept_45 : decode cL_slept 45 = .ok (.ifCond .eq 7, 3) := by decide +kernel
theorem dL_slept_48 : decode cL_slept 48 = .ok (.iconst 1, 1) := by decide +kernel
theorem dL_slept_49 : decode cL_slept 49 = .ok (.goto 4, 3) := by decide +kernel
theorem dL_slept_52 : decode cL_slept 52 = .ok (.iconst 0, 1) := by decide +kernel
theorem dL_slept_53 : decode cL_slept 53 = .ok (.iadd, 1) := by decide +kernel
theorem dL_slept_54 : decode cL_slept 54 = .ok (.istore 6, 2) := by decide +kernel
theorem dL_slept_56 : decode cL_slept 56 = .ok (.iinc 7 1, 3) := by decide +kernel
theorem dL_slept_59 : decode cL_slept 59 = .ok (.goto (-30), 3) := by decide +kernel
theorem dL_slept_62 : decode cL_slept 62 = .ok (.iload 4, 2) := by decide +kernel
theorem dL_slept_64 : decode cL_slept 64 = .ok (.iload 6, 2) := by decide +kernel
theorem dL_slept_66 : decode cL_slept 66 = .ok (.iadd, 1) := by decide +kernel
theorem dL_slept_67 : decode cL_slept 67 = .ok (.istore 4, 2) := by decide +kernel
theorem dL_slept_69 : decode cL_slept 69 = .ok (.iload 6, 2) := by decide +kernel
theorem dL_slept_71 : decode cL_slept 71 = .ok (.iload_n 3, 1) := by decide +kernel
theorem dL_slept_72 : decode cL_slept 72 = .ok (.if_icmp .le 8, 3) := by decide +kernel
theorem dL_slept_75 : decode cL_slept 75 = .ok (.iload 5, 2) := by decide +kernel
theorem dL_slept_77 : decode cL_slept 77 = .ok (.goto 4, 3) := by decide +kernel
theorem dL_slept_80 : decode cL_slept 80 = .ok (.iload_n 2, 1) := by decide +kernel
theorem dL_slept_81 : decode cL_slept 81 = .ok (.istore_n 2, 1) := by decide +kernel
theorem dL_slept_82 : decode cL_slept 82 = .ok (.iload_n 3, 1) := by decide +kernel
theorem dL_slept_83 : decode cL_slept 83 = .ok (.iload 6, 2) := by decide +kernel
theorem dL_slept_85 : decode cL_slept 85 = .ok (.invokestatic 210, 3) := by decide +kernel
theorem dL_slept_88 : decode cL_slept 88 = .ok (.istore_n 3, 1) := by decide +kernel
theorem dL_slept_89 : decode cL_slept 89 = .ok (.aload_n 0, 1) := by decide +kernel
theorem dL_slept_90 : decode cL_slept 90 = .ok (.iload 5, 2) := by decide +kernel
theorem dL_slept_92 : decode cL_slept 92 = .ok (.iconst 0, 1) := by decide +kernel
theorem dL_slept_93 : decode cL_slept 93 = .ok (.invokestatic 213, 3) := by decide +kernel
theorem dL_slept_96 : decode cL_slept 96 = .ok (.iload 6, 2) := by decide +kernel
theorem dL_slept_98 : decode cL_slept 98 = .ok (.if_icmp .ne 15, 3) := by decide +kernel
theorem dL_slept_101 : decode cL_slept 101 = .ok (.aload_n 0, 1) := by decide +kernel
theorem dL_slept_102 : decode cL_slept 102 = .ok (.iload 5, 2) := by decide +kernel
theorem dL_slept_104 : decode cL_slept 104 = .ok (.iconst 1, 1) := by decide +kernel
theorem dL_slept_105 : decode cL_slept 105 = .ok (.invokestatic 213, 3) := by decide +kernel
theorem dL_slept_108 : decode cL_slept 108 = .ok (.iload 6, 2) := by decide +kernel
theorem dL_slept_110 : decode cL_slept 110 = .ok (.if_icmp .eq 5, 3) := by decide +kernel
theorem dL_slept_113 : decode cL_slept 113 = .ok (.iconst 0, 1) := by decide +kernel
theorem dL_slept_114 : decode cL_slept 114 = .ok (.ireturn, 1) := by decide +kernel
theorem dL_slept_115 : decode cL_slept 115 = .ok (.iinc 5 1, 3) := by decide +kernel
theorem dL_slept_118 : decode cL_slept 118 = .ok (.goto (-102), 3) := by decide +kernel
theorem dL_slept_121 : decode cL_slept 121 = .ok (.iconst 0, 1) := by decide +kernel
theorem dL_slept_122 : decode cL_slept 122 = .ok (.istore 5, 2) := by decide +kernel
theorem dL_slept_124 : decode cL_slept 124 = .ok (.iconst 0, 1) := by decide +kernel
theorem dL_slept_125 : decode cL_slept 125 = .ok (.istore 6, 2) := by decide +kernel
theorem dL_slept_127 : decode cL_slept 127 = .ok (.iconst 0, 1) := by decide +kernel
theorem dL_slept_128 : decode cL_slept 128 = .ok (.istore 7, 2) := by decide +kernel
theorem dL_slept_130 : decode cL_slept 130 = .ok (.iload 7, 2) := by decide +kernel
theorem dL_slept_132 : decode cL_slept 132 = .ok (.iload_n 1, 1) := by decide +kernel
theorem dL_slept_133 : decode cL_slept 133 = .ok (.if_icmp .ge 131, 3) := by decide +kernel
theorem dL_slept_136 : decode cL_slept 136 = .ok (.iconst 0, 1) := by decide +kernel
theorem dL_slept_137 : decode cL_slept 137 = .ok (.istore 8, 2) := by decide +kernel
theorem dL_slept_139 : decode cL_slept 139 = .ok (.iconst 0, 1) := by decide +kernel
theorem dL_slept_140 : decode cL_slept 140 = .ok (.istore 9, 2) := by decide +kernel
theorem dL_slept_142 : decode cL_slept 142 = .ok (.iload 9, 2) := by decide +kernel
theorem dL_slept_144 : decode cL_slept 144 = .ok (.bipush 24, 2) := by decide +kernel
theorem dL_slept_146 : decode cL_slept 146 = .ok (.if_icmp .ge 30, 3) := by decide +kernel
theorem dL_slept_149 : decode cL_slept 149 = .ok (.iload 8, 2) := by decide +kernel
theorem dL_slept_151 : decode cL_slept 151 = .ok (.aload_n 0, 1) := by decide +kernel
theorem dL_slept_152 : decode cL_slept 152 = .ok (.iload 7, 2) := by decide +kernel
theorem dL_slept_154 : decode cL_slept 154 = .ok (.iload 9, 2) := by decide +kernel
theorem dL_slept_156 : decode cL_slept 156 = .ok (.invokestatic 180, 3) := by decide +kernel
theorem dL_slept_159 : decode cL_slept 159 = .ok (.ifCond .eq 7, 3) := by decide +kernel
theorem dL_slept_162 : decode cL_slept 162 = .ok (.iconst 1, 1) := by decide +kernel
theorem dL_slept_163 : decode cL_slept 163 = .ok (.goto 4, 3) := by decide +kernel
theorem dL_slept_166 : decode cL_slept 166 = .ok (.iconst 0, 1) := by decide +kernel
theorem dL_slept_167 : decode cL_slept 167 = .ok (.iadd, 1) := by decide +kernel
theorem dL_slept_168 : decode cL_slept 168 = .ok (.istore 8, 2) := by decide +kernel
theorem dL_slept_170 : decode cL_slept 170 = .ok (.iinc 9 1, 3) := by decide +kernel
theorem dL_slept_173 : decode cL_slept 173 = .ok (.goto (-31), 3) := by decide +kernel
theorem dL_slept_176 : decode cL_slept 176 = .ok (.iload 5, 2) := by decide +kernel
theorem dL_slept_178 : decode cL_slept 178 = .ok (.aload_n 0, 1) := by decide +kernel
theorem dL_slept_179 : decode cL_slept 179 = .ok (.iload 7, 2) := by decide +kernel
theorem dL_slept_181 : decode cL_slept 181 = .ok (.iconst 4, 1) := by decide +kernel
theorem dL_slept_182 : decode cL_slept 182 = .ok (.invokestatic 172, 3) := by decide +kernel
theorem dL_slept_185 : decode cL_slept 185 = .ok (.iadd, 1) := by decide +kernel
theorem dL_slept_186 : decode cL_slept 186 = .ok (.istore 5, 2) := by decide +kernel
theorem dL_slept_188 : decode cL_slept 188 = .ok (.iload 6, 2) := by decide +kernel
theorem dL_slept_190 : decode cL_slept 190 = .ok (.aload_n 0, 1) := by decide +kernel
theorem dL_slept_191 : decode cL_slept 191 = .ok (.iload 7, 2) := by decide +kernel
theorem dL_slept_193 : decode cL_slept 193 = .ok (.iconst 3, 1) := by decide +kernel
theorem dL_slept_194 : decode cL_slept 194 = .ok (.invokestatic 172, 3) := by decide +kernel
theorem dL_slept_197 : decode cL_slept 197 = .ok (.iadd, 1) := by decide +kernel
theorem dL_slept_198 : decode cL_slept 198 = .ok (.istore 6, 2) := by decide +kernel
theorem dL_slept_200 : decode cL_slept 200 = .ok (.aload_n 0, 1) := by decide +kernel
theorem dL_slept_201 : decode cL_slept 201 = .ok (.iload 7, 2) := by decide +kernel
theorem dL_slept_203 : decode cL_slept 203 = .ok (.bipush 7, 2) := by decide +kernel
theorem dL_slept_205 : decode cL_slept 205 = .ok (.invokestatic 172, 3) := by decide +kernel
theorem dL_slept_208 : decode cL_slept 208 = .ok (.iload 8, 2) := by decide +kernel
theorem dL_slept_210 : decode cL_slept 210 = .ok (.if_icmp .ne 46, 3) := by decide +kernel
theorem dL_slept_213 : decode cL_slept 213 = .ok (.aload_n 0, 1) := by decide +kernel
theorem dL_slept_214 : decode cL_slept 214 = .ok (.iload 7, 2) := by decide +kernel
theorem dL_slept_216 : decode cL_slept 216 = .ok (.bipush 6, 2) := by decide +kernel
theorem dL_slept_218 : decode cL_slept 218 = .ok (.invokestatic 172, 3) := by decide +kernel
theorem dL_slept_221 : decode cL_slept 221 = .ok (.aload_n 0, 1) := by decide +kernel
theorem dL_slept_222 : decode cL_slept 222 = .ok (.iload 7, 2) := by decide +kernel
theorem dL_slept_224 : decode cL_slept 224 = .ok (.aload_n 0, 1) := by decide +kernel
theorem dL_slept_225 : decode cL_slept 225 = .ok (.iconst 0, 1) := by decide +kernel
theorem dL_slept_226 : decode cL_slept 226 = .ok (.invokevirtual 162, 3) := by decide +kernel
theorem dL_slept_229 : decode cL_slept 229 = .ok (.invokestatic 180, 3) := by decide +kernel
theorem dL_slept_232 : decode cL_slept 232 = .ok (.ifCond .eq 7, 3) := by decide +kernel
theorem dL_slept_235 : decode cL_slept 235 = .ok (.iconst 1, 1) := by decide +kernel
theorem dL_slept_236 : decode cL_slept 236 = .ok (.goto 4, 3) := by decide +kernel
theorem dL_slept_239 : decode cL_slept 239 = .ok (.iconst 0, 1) := by decide +kernel
theorem dL_slept_240 : decode cL_slept 240 = .ok (.if_icmp .ne 16, 3) := by decide +kernel
theorem dL_slept_243 : decode cL_slept 243 = .ok (.aload_n 0, 1) := by decide +kernel
theorem dL_slept_244 : decode cL_slept 244 = .ok (.iload 7, 2) := by decide +kernel
theorem dL_slept_246 : decode cL_slept 246 = .ok (.bipush 8, 2) := by decide +kernel
theorem dL_slept_248 : decode cL_slept 248 = .ok (.invokestatic 172, 3) := by decide +kernel
theorem dL_slept_251 : decode cL_slept 251 = .ok (.bipush (-12), 2) := by decide +kernel
theorem dL_slept_253 : decode cL_slept 253 = .ok (.if_icmp .eq 5, 3) := by decide +kernel
theorem dL_slept_256 : decode cL_slept 256 = .ok (.iconst 0, 1) := by decide +kernel
theorem dL_slept_257 : decode cL_slept 257 = .ok (.ireturn, 1) := by decide +kernel
theorem dL_slept_258 : decode cL_slept 258 = .ok (.iinc 7 1, 3) := by decide +kernel
theorem dL_slept_261 : decode cL_slept 261 = .ok (.goto (-131), 3) := by decide +kernel
theorem dL_slept_264 : decode cL_slept 264 = .ok (.aload_n 0, 1) := by decide +kernel
theorem dL_slept_265 : decode cL_slept 265 = .ok (.iconst 0, 1) := by decide +kernel
theorem dL_slept_266 : decode cL_slept 266 = .ok (.invokestatic 216, 3) := by decide +kernel
theorem dL_slept_269 : decode cL_slept 269 = .ok (.aload_n 0, 1) := by decide +kernel
theorem dL_slept_270 : decode cL_slept 270 = .ok (.iconst 1, 1) := by decide +kernel
theorem dL_slept_271 : decode cL_slept 271 = .ok (.invokestatic 216, 3) := by decide +kernel
theorem dL_slept_274 : decode cL_slept 274 = .ok (.iadd, 1) := by decide +kernel
theorem dL_slept_275 : decode cL_slept 275 = .ok (.aload_n 0, 1) := by decide +kernel
theorem dL_slept_276 : decode cL_slept 276 = .ok (.iconst 2, 1) := by decide +kernel
theorem dL_slept_277 : decode cL_slept 277 = .ok (.invokestatic 216, 3) := by decide +kernel
theorem dL_slept_280 : decode cL_slept 280 = .ok (.iadd, 1) := by decide +kernel
theorem dL_slept_281 : decode cL_slept 281 = .ok (.aload_n 0, 1) := by decide +kernel
theorem dL_slept_282 : decode cL_slept 282 = .ok (.iconst 3, 1) := by decide +kernel
theorem dL_slept_283 : decode cL_slept 283 = .ok (.invokestatic 216, 3) := by decide +kernel
theorem dL_slept_286 : decode cL_slept 286 = .ok (.iadd, 1) := by decide +kernel
theorem dL_slept_287 : decode cL_slept 287 = .ok (.istore 7, 2) := by decide +kernel
theorem dL_slept_289 : decode cL_slept 289 = .ok (.aload_n 0, 1) := by decide +kernel
theorem dL_slept_290 : decode cL_slept 290 = .ok (.invokestatic 218, 3) := by decide +kernel
theorem dL_slept_293 : decode cL_slept 293 = .ok (.iload_n 3, 1) := by decide +kernel
theorem dL_slept_294 : decode cL_slept 294 = .ok (.ifCond .ne 8, 3) := by decide +kernel
theorem dL_slept_297 : decode cL_slept 297 = .ok (.bipush (-13), 2) := by decide +kernel
theorem dL_slept_299 : decode cL_slept 299 = .ok (.goto 4, 3) := by decide +kernel
theorem dL_slept_302 : decode cL_slept 302 = .ok (.iload_n 2, 1) := by decide +kernel
theorem dL_slept_303 : decode cL_slept 303 = .ok (.if_icmp .ne 135, 3) := by decide +kernel
theorem dL_slept_306 : decode cL_slept 306 = .ok (.iload_n 1, 1) := by decide +kernel
theorem dL_slept_307 : decode cL_slept 307 = .ok (.ifCond .eq 17, 3) := by decide +kernel
theorem dL_slept_310 : decode cL_slept 310 = .ok (.aload_n 0, 1) := by decide +kernel
theorem dL_slept_311 : decode cL_slept 311 = .ok (.invokevirtual 220, 3) := by decide +kernel
theorem dL_slept_314 : decode cL_slept 314 = .ok (.iload 4, 2) := by decide +kernel
theorem dL_slept_316 : decode cL_slept 316 = .ok (.i2d, 1) := by decide +kernel
theorem dL_slept_317 : decode cL_slept 317 = .ok (.iload_n 1, 1) := by decide +kernel
theorem dL_slept_318 : decode cL_slept 318 = .ok (.i2d, 1) := by decide +kernel
theorem dL_slept_319 : decode cL_slept 319 = .ok (.ddiv, 1) := by decide +kernel
theorem dL_slept_320 : decode cL_slept 320 = .ok (.dcmp .l, 1) := by decide +kernel
theorem dL_slept_321 : decode cL_slept 321 = .ok (.ifCond .ne 117, 3) := by decide +kernel
theorem dL_slept_324 : decode cL_slept 324 = .ok (.iload 7, 2) := by decide +kernel
theorem dL_slept_326 : decode cL_slept 326 = .ok (.aload_n 0, 1) := by decide +kernel
theorem dL_slept_327 : decode cL_slept 327 = .ok (.bipush 7, 2) := by decide +kernel
theorem dL_slept_329 : decode cL_slept 329 = .ok (.invokevirtual 162, 3) := by decide +kernel
theorem dL_slept_332 : decode cL_slept 332 = .ok (.aload_n 0, 1) := by decide +kernel
theorem dL_slept_333 : decode cL_slept 333 = .ok (.bipush 8, 2) := by decide +kernel
theorem dL_slept_335 : decode cL_slept 335 = .ok (.invokevirtual 162, 3) := by decide +kernel
theorem dL_slept_338 : decode cL_slept 338 = .ok (.iadd, 1) := by decide +kernel
theorem dL_slept_339 : decode cL_slept 339 = .ok (.if_icmp .ne 99, 3) := by decide +kernel
theorem dL_slept_342 : decode cL_slept 342 = .ok (.iload 6, 2) := by decide +kernel
theorem dL_slept_344 : decode cL_slept 344 = .ok (.iload 7, 2) := by decide +kernel
theorem dL_slept_346 : decode cL_slept 346 = .ok (.if_icmp .ne 92, 3) := by decide +kernel
theorem dL_slept_349 : decode cL_slept 349 = .ok (.iload 5, 2) := by decide +kernel
theorem dL_slept_351 : decode cL_slept 351 = .ok (.aload_n 0, 1) := by decide +kernel
theorem dL_slept_352 : decode cL_slept 352 = .ok (.iconst 3, 1) := by decide +kernel
theorem dL_slept_353 : decode cL_slept 353 = .ok (.invokestatic 216, 3) := by decide +kernel
theorem dL_slept_356 : decode cL_slept 356 = .ok (.if_icmp .ne 82, 3) := by decide +kernel
theorem dL_slept_359 : decode cL_slept 359 = .ok (.aload_n 0, 1) := by decide +kernel
theorem dL_slept_360 : decode cL_slept 360 = .ok (.bipush 9, 2) := by decide +kernel
theorem dL_slept_362 : decode cL_slept 362 = .ok (.invokevirtual 162, 3) := by decide +kernel
theorem dL_slept_365 : decode cL_slept 365 = .ok (.iload 5, 2) := by decide +kernel
theorem dL_slept_367 : decode cL_slept 367 = .ok (.if_icmp .gt 71, 3) := by decide +kernel
theorem dL_slept_370 : decode cL_slept 370 = .ok (.iload 7, 2) := by decide +kernel
theorem dL_slept_372 : decode cL_slept 372 = .ok (.ifCond .eq 18, 3) := by decide +kernel
theorem dL_slept_375 : decode cL_slept 375 = .ok (.aload_n 0, 1) := by decide +kernel
theorem dL_slept_376 : decode cL_slept 376 = .ok (.invokevirtual 224, 3) := by decide +kernel
theorem dL_slept_379 : decode cL_slept 379 = .ok (.iload 5, 2) := by decide +kernel
theorem dL_slept_381 : decode cL_slept 381 = .ok (.i2f, 1) := by decide +kernel
theorem dL_slept_382 : decode cL_slept 382 = .ok (.iload 7, 2) := by decide +kernel
theorem dL_slept_384 : decode cL_slept 384 = .ok (.i2f, 1) := by decide +kernel
theorem dL_slept_385 : decode cL_slept 385 = .ok (.fdiv, 1) := by decide +kernel
theorem dL_slept_386 : decode cL_slept 386 = .ok (.fcmp .l, 1) := by decide +kernel
theorem dL_slept_387 : decode cL_slept 387 = .ok (.ifCond .ne 51, 3) := by decide +kernel
theorem dL_slept_390 : decode cL_slept 390 = .ok (.aload_n 0, 1) := by decide +kernel
theorem dL_slept_391 : decode cL_slept 391 = .ok (.bipush 24, 2) := by decide +kernel
theorem dL_slept_393 : decode cL_slept 393 = .ok (.iconst 1, 1) := by decide +kernel
theorem dL_slept_394 : decode cL_slept 394 = .ok (.invokestatic 213, 3) := by decide +kernel
theorem dL_slept_397 : decode cL_slept 397 = .ok (.bipush (-12), 2) := by decide +kernel
theorem dL_slept_399 : decode cL_slept 399 = .ok (.if_icmp .ne 39, 3) := by decide +kernel
theorem dL_slept_402 : decode cL_slept 402 = .ok (.aload_n 0, 1) := by decide +kernel
theorem dL_slept_403 : decode cL_slept 403 = .ok (.iload_n 1, 1) := by decide +kernel
theorem dL_slept_404 : decode cL_slept 404 = .ok (.bipush 9, 2) := by decide +kernel
theorem dL_slept_406 : decode cL_slept 406 = .ok (.invokestatic 172, 3) := by decide +kernel
theorem dL_slept_409 : decode cL_slept 409 = .ok (.bipush (-11), 2) := by decide +kernel
theorem dL_slept_411 : decode cL_slept 411 = .ok (.if_icmp .ne 27, 3) := by decide +kernel
theorem dL_slept_414 : decode cL_slept 414 = .ok (.aload_n 0, 1) := by decide +kernel
theorem dL_slept_415 : decode cL_slept 415 = .ok (.iconst 4, 1) := by decide +kernel
theorem dL_slept_416 : decode cL_slept 416 = .ok (.invokestatic 216, 3) := by decide +kernel
theorem dL_slept_419 : decode cL_slept 419 = .ok (.bipush (-12), 2) := by decide +kernel
theorem dL_slept_421 : decode cL_slept 421 = .ok (.if_icmp .ne 17, 3) := by decide +kernel
theorem dL_slept_424 : decode cL_slept 424 = .ok (.aload_n 0, 1) := by decide +kernel
theorem dL_slept_425 : decode cL_slept 425 = .ok (.iconst 0, 1) := by decide +kernel
theorem dL_slept_426 : decode cL_slept 426 = .ok (.invokevirtual 162, 3) := by decide +kernel
theorem dL_slept_429 : decode cL_slept 429 = .ok (.bipush 24, 2) := by decide +kernel
theorem dL_slept_431 : decode cL_slept 431 = .ok (.if_icmp .ge 7, 3) := by decide +kernel
theorem dL_slept_434 : decode cL_slept 434 = .ok (.iconst 1, 1) := by decide +kernel
theorem dL_slept_435 : decode cL_slept 435 = .ok (.goto 4, 3) := by decide +kernel
theorem dL_slept_438 : decode cL_slept 438 = .ok (.iconst 0, 1) := by decide +kernel
theorem dL_slept_439 : decode cL_slept 439 = .ok (.ireturn, 1) := by decide +kernel
theorem k_L_slept : cardS yL_slept (Cond.code yL_slept cL_slept 10 (some .boolean)) 1 := ⟨qs_L_slept, qc_L_slept, qn_L, by decide +kernel, by decide +kernel, by decide +kernel⟩
set_option maxHeartbeats 4000000 in
set_option maxRecDepth 100000 in
theorem c_L_slept (l : Launch) (hfl : l.stackTraces = false) (ev : LEv) (D : va_G) (g : Nat → ClassId) (ad : Nat → Nat → Nat) (ax : Nat → Nat) (x : XVal) (o : Int32) (h : F_L_slept x = some o) : MG l yL_slept (Cond.code yL_slept cL_slept 10 (some .boolean)) { frames := 11, cells := 2432, slots := 14592, locals := 199 } (KF ev) D g [.ref (ax 0)] ([] ++ OW g ax ad x) (some (.int o)) ([] ++ OW g ax ad x) 2432 14592 := by
  refine z_g_start (by decide) (Nat.le_of_ble_eq_true rfl) ?_
  intro p e s m args below meth c Q A X hr hK hA hQ
  refine z_lv (lv' := [(0, .ref (ax 0))]) rfl ?_
  have H390 : ∀ (x1 : Int32), J_L_slept_390 x x1 = some o → Z p l e { frames := 11, cells := 2432, slots := 14592, locals := 199 } s m args below meth c Q 10 2427 14562 (IW D A s ([] ++ OW g ax ad x)) 390 [(0, .ref (ax 0)), (1, .int x1)] [] := by
    intro x1 h
    refine z_aload_n X 0 dL_slept_390 rfl rfl ?_
    refine z_bipush X (24 : Int32) dL_slept_391 (by decide) ?_
    refine z_iconst X (1 : Int32) dL_slept_393 (by decide) ?_
    obtain ⟨o31, e32, h⟩ := bnd_p h
    have f33 := bk_appP (X := OW g ax ad x) (X' := OW g ax ad x) (perm_of (n := 0) (E := []) (wc := []) (wr := []) [] [] rfl rfl rfl (by decide +kernel)) (perm_of (n := 0) (E := []) (wc := []) (wr := []) [] [] rfl rfl rfl (by decide +kernel)) rfl OW_fst
    refine z_gSH (rest := []) (ws' := ([] ++ OW g ax ad x)) X (KF_ok ev) (kc_of (KF_ok ev) (fun _ _ _ q => q) hK hA f33.1) hA k_L_asleep (c_L_asleep l hfl ev D g ad ax (24 : Int32) (1 : Int32) x o31 e32) ql_L_L_asleep dL_slept_394 f33.1 f33.2 rfl rfl ⟨Nat.le_of_ble_eq_true rfl, Nat.le_of_ble_eq_true rfl, rfl, rfl, (Nat.le_trans (m := 2432) (by first | exact Nat.le_of_ble_eq_true rfl | omega) (Nat.le_of_ble_eq_true rfl)), (Nat.le_trans (m := 14592) (by first | exact Nat.le_of_ble_eq_true rfl | omega) (Nat.le_of_ble_eq_true rfl))⟩ (Nat.le_of_ble_eq_true rfl) ?_
    refine z_bipush X ((-12) : Int32) dL_slept_397 (by decide) ?_
    refine z_icmp_ne X 438 dL_slept_399 (by decide) h (fun _ h => ?_) (fun _ h => ?_)
    · refine z_aload_n X 0 dL_slept_402 rfl rfl ?_
      refine z_iload_n X 1 dL_slept_403 rfl rfl ?_
      refine z_bipush X (9 : Int32) dL_slept_404 (by decide) ?_
      obtain ⟨o34, e35, h⟩ := bnd_p h
      have f36 := bk_appP (X := OW g ax ad x) (X' := OW g ax ad x) (perm_of (n := 0) (E := []) (wc := []) (wr := []) [] [] rfl rfl rfl (by decide +kernel)) (perm_of (n := 0) (E := []) (wc := []) (wr := []) [] [] rfl rfl rfl (by decide +kernel)) rfl OW_fst
      refine z_gSH (rest := []) (ws' := ([] ++ OW g ax ad x)) X (KF_ok ev) (kc_of (KF_ok ev) (fun _ _ _ q => q) hK hA f36.1) hA k_L_of (c_L_of l hfl ev D g ad ax x1 (9 : Int32) x o34 e35) ql_L_L_of dL_slept_406 f36.1 f36.2 rfl rfl ⟨Nat.le_of_ble_eq_true rfl, Nat.le_of_ble_eq_true rfl, rfl, rfl, (Nat.le_trans (m := 2432) (by first | exact Nat.le_of_ble_eq_true rfl | omega) (Nat.le_of_ble_eq_true rfl)), (Nat.le_trans (m := 14592) (by first | exact Nat.le_of_ble_eq_true rfl | omega) (Nat.le_of_ble_eq_true rfl))⟩ (Nat.le_of_ble_eq_true rfl) ?_
      refine z_bipush X ((-11) : Int32) dL_slept_409 (by decide) ?_
      refine z_icmp_ne X 438 dL_slept_411 (by decide) h (fun _ h => ?_) (fun _ h => ?_)
      · refine z_aload_n X 0 dL_slept_414 rfl rfl ?_
        refine z_iconst X (4 : Int32) dL_slept_415 (by decide) ?_
        obtain ⟨o37, e38, h⟩ := bnd_p h
        have f39 := bk_appP (X := OW g ax ad x) (X' := OW g ax ad x) (perm_of (n := 0) (E := []) (wc := []) (wr := []) [] [] rfl rfl rfl (by decide +kernel)) (perm_of (n := 0) (E := []) (wc := []) (wr := []) [] [] rfl rfl rfl (by decide +kernel)) rfl OW_fst
        refine z_gSH (rest := []) (ws' := ([] ++ OW g ax ad x)) X (KF_ok ev) (kc_of (KF_ok ev) (fun _ _ _ q => q) hK hA f39.1) hA k_L_rings (c_L_rings l hfl ev D g ad ax (4 : Int32) x o37 e38) ql_L_L_rings dL_slept_416 f39.1 f39.2 rfl rfl ⟨Nat.le_of_ble_eq_true rfl, Nat.le_of_ble_eq_true rfl, rfl, rfl, (Nat.le_trans (m := 2432) (by first | exact Nat.le_of_ble_eq_true rfl | omega) (Nat.le_of_ble_eq_true rfl)), (Nat.le_trans (m := 14592) (by first | exact Nat.le_of_ble_eq_true rfl | omega) (Nat.le_of_ble_eq_true rfl))⟩ (Nat.le_of_ble_eq_true rfl) ?_
        refine z_bipush X ((-12) : Int32) dL_slept_419 (by decide) ?_
        refine z_icmp_ne X 438 dL_slept_421 (by decide) h (fun _ h => ?_) (fun _ h => ?_)
        · refine z_aload_n X 0 dL_slept_424 rfl rfl ?_
          refine z_iconst X (0 : Int32) dL_slept_425 (by decide) ?_
          obtain ⟨o40, e41, h⟩ := bnd_p h
          obtain ⟨hz42, h⟩ := grd_p h
          obtain ⟨wco40, wdo40, hNo40, bo40, do40, xo40⟩ := nx_account l hfl ev.ak ev.av ev.aS D g ad ax (0 : Int32) x o40.1 o40.2.1 o40.2.2 e41
          rw [xo40] at do40
          have fo40 := bk_E (E := []) bo40 do40
          refine z_exV (rest := []) (q0 := 0) (ci := 11) (ws' := ([] ++ OW g ax ad x)) X hK.1 hA k_X11_account hNo40 ql_L_X11_account dL_slept_426 fo40.1 fo40.2 rfl rfl rfl rfl rfl ⟨Nat.le_of_ble_eq_true rfl, Nat.le_of_ble_eq_true rfl, rfl, rfl, (Nat.le_trans (m := 2432) (by first | exact Nat.le_of_ble_eq_true rfl | omega) (Nat.le_of_ble_eq_true rfl)), (Nat.le_trans (m := 14592) (by first | exact Nat.le_of_ble_eq_true rfl | omega) (Nat.le_of_ble_eq_true rfl))⟩ (Nat.le_of_ble_eq_true rfl) (fun _ => ?_) (fun q => absurd hz42 q)
          refine z_bipush X (24 : Int32) dL_slept_429 (by decide) ?_
          refine z_icmp_ge X 438 dL_slept_431 (by decide) h (fun _ h => ?_) (fun _ h => ?_)
          · cases h
          · refine z_iconst X (1 : Int32) dL_slept_434 (by decide) ?_
            refine z_goto X 439 dL_slept_435 (by decide) ?_
            cases h
            exact z_lzret X hQ (by first | exact Nat.le_of_ble_eq_true rfl | omega) (by first | exact Nat.le_of_ble_eq_true rfl | omega) hr dL_slept_439 rfl
        · cases h
      · cases h
    · cases h
  have H324 : ∀ (x1 : Int32) (x5 : Int32) (x6 : Int32) (x7 : Int32), J_L_slept_324 x x1 x5 x6 x7 = some o → Z p l e { frames := 11, cells := 2432, slots := 14592, locals := 199 } s m args below meth c Q 10 2422 14532 (IW D A s ([] ++ OW g ax ad x)) 324 [(0, .ref (ax 0)), (1, .int x1), (5, .int x5), (6, .int x6), (7, .int x7)] [] := by
    intro x1 x5 x6 x7 h
    refine z_iload X 4 dL_slept_324 rfl ?_
    refine z_aload_n X 0 dL_slept_326 rfl rfl ?_
    refine z_bipush X (7 : Int32) dL_slept_327 (by decide) ?_
    obtain ⟨o19, e20, h⟩ := bnd_p h
    obtain ⟨hz21, h⟩ := grd_p h
    obtain ⟨wco19, wdo19, hNo19, bo19, do19, xo19⟩ := nx_account l hfl ev.ak ev.av ev.aS D g ad ax (7 : Int32) x o19.1 o19.2.1 o19.2.2 e20
    rw [xo19] at do19
    have fo19 := bk_E (E := []) bo19 do19
    refine z_exV (rest := [.int x7]) (q0 := 0) (ci := 11) (ws' := ([] ++ OW g ax ad x)) X hK.1 hA k_X11_account hNo19 ql_L_X11_account dL_slept_329 fo19.1 fo19.2 rfl rfl rfl rfl rfl ⟨Nat.le_of_ble_eq_true rfl, Nat.le_of_ble_eq_true rfl, rfl, rfl, (Nat.le_trans (m := 2432) (by first | exact Nat.le_of_ble_eq_true rfl | omega) (Nat.le_of_ble_eq_true rfl)), (Nat.le_trans (m := 14592) (by first | exact Nat.le_of_ble_eq_true rfl | omega) (Nat.le_of_ble_eq_true rfl))⟩ (Nat.le_of_ble_eq_true rfl) (fun _ => ?_) (fun q => absurd hz21 q)
    refine z_aload_n X 0 dL_slept_332 rfl rfl ?_
    refine z_bipush X (8 : Int32) dL_slept_333 (by decide) ?_
    obtain ⟨o22, e23, h⟩ := bnd_p h
    obtain ⟨hz24, h⟩ := grd_p h
    obtain ⟨wco22, wdo22, hNo22, bo22, do22, xo22⟩ := nx_account l hfl ev.ak ev.av ev.aS D g ad ax (8 : Int32) x o22.1 o22.2.1 o22.2.2 e23
    rw [xo22] at do22
    have fo22 := bk_E (E := []) bo22 do22
    refine z_exV (rest := [.int o19.2.1, .int x7]) (q0 := 0) (ci := 11) (ws' := ([] ++ OW g ax ad x)) X hK.1 hA k_X11_account hNo22 ql_L_X11_account dL_slept_335 fo22.1 fo22.2 rfl rfl rfl rfl rfl ⟨Nat.le_of_ble_eq_true rfl, Nat.le_of_ble_eq_true rfl, rfl, rfl, (Nat.le_trans (m := 2432) (by first | exact Nat.le_of_ble_eq_true rfl | omega) (Nat.le_of_ble_eq_true rfl)), (Nat.le_trans (m := 14592) (by first | exact Nat.le_of_ble_eq_true rfl | omega) (Nat.le_of_ble_eq_true rfl))⟩ (Nat.le_of_ble_eq_true rfl) (fun _ => ?_) (fun q => absurd hz24 q)
    refine z_iadd X dL_slept_338 ?_
    refine z_icmp_ne X 438 dL_slept_339 (by decide) h (fun _ h => ?_) (fun _ h => ?_)
    · refine z_iload X 3 dL_slept_342 rfl ?_
      refine z_iload X 4 dL_slept_344 rfl ?_
      refine z_icmp_ne X 438 dL_slept_346 (by decide) h (fun _ h => ?_) (fun _ h => ?_)
      · refine z_iload X 2 dL_slept_349 rfl ?_
        refine z_aload_n X 0 dL_slept_351 rfl rfl ?_
        refine z_iconst X (3 : Int32) dL_slept_352 (by decide) ?_
        obtain ⟨o25, e26, h⟩ := bnd_p h
        have f27 := bk_appP (X := OW g ax ad x) (X' := OW g ax ad x) (perm_of (n := 0) (E := []) (wc := []) (wr := []) [] [] rfl rfl rfl (by decide +kernel)) (perm_of (n := 0) (E := []) (wc := []) (wr := []) [] [] rfl rfl rfl (by decide +kernel)) rfl OW_fst
        refine z_gSH (rest := [.int x5]) (ws' := ([] ++ OW g ax ad x)) X (KF_ok ev) (kc_of (KF_ok ev) (fun _ _ _ q => q) hK hA f27.1) hA k_L_rings (c_L_rings l hfl ev D g ad ax (3 : Int32) x o25 e26) ql_L_L_rings dL_slept_353 f27.1 f27.2 rfl rfl ⟨Nat.le_of_ble_eq_true rfl, Nat.le_of_ble_eq_true rfl, rfl, rfl, (Nat.le_trans (m := 2432) (by first | exact Nat.le_of_ble_eq_true rfl | omega) (Nat.le_of_ble_eq_true rfl)), (Nat.le_trans (m := 14592) (by first | exact Nat.le_of_ble_eq_true rfl | omega) (Nat.le_of_ble_eq_true rfl))⟩ (Nat.le_of_ble_eq_true rfl) ?_
        refine z_icmp_ne X 438 dL_slept_356 (by decide) h (fun _ h => ?_) (fun _ h => ?_)
        · refine z_aload_n X 0 dL_slept_359 rfl rfl ?_
          refine z_bipush X (9 : Int32) dL_slept_360 (by decide) ?_
          obtain ⟨o28, e29, h⟩ := bnd_p h
          obtain ⟨hz30, h⟩ := grd_p h
          obtain ⟨wco28, wdo28, hNo28, bo28, do28, xo28⟩ := nx_account l hfl ev.ak ev.av ev.aS D g ad ax (9 : Int32) x o28.1 o28.2.1 o28.2.2 e29
          rw [xo28] at do28
          have fo28 := bk_E (E := []) bo28 do28
          refine z_exV (rest := []) (q0 := 0) (ci := 11) (ws' := ([] ++ OW g ax ad x)) X hK.1 hA k_X11_account hNo28 ql_L_X11_account dL_slept_362 fo28.1 fo28.2 rfl rfl rfl rfl rfl ⟨Nat.le_of_ble_eq_true rfl, Nat.le_of_ble_eq_true rfl, rfl, rfl, (Nat.le_trans (m := 2432) (by first | exact Nat.le_of_ble_eq_true rfl | omega) (Nat.le_of_ble_eq_true rfl)), (Nat.le_trans (m := 14592) (by first | exact Nat.le_of_ble_eq_true rfl | omega) (Nat.le_of_ble_eq_true rfl))⟩ (Nat.le_of_ble_eq_true rfl) (fun _ => ?_) (fun q => absurd hz30 q)
          refine z_iload X 2 dL_slept_365 rfl ?_
          refine z_icmp_gt X 438 dL_slept_367 (by decide) h (fun _ h => ?_) (fun _ h => ?_)
          · cases h
          · refine z_iload X 4 dL_slept_370 rfl ?_
            refine z_if_eq X 390 dL_slept_372 (by decide) h (fun _ h => ?_) (fun _ h => ?_)
            · refine z_widen (k := 2427) (n := 14562) (by first | exact Nat.le_of_ble_eq_true rfl | omega) (by first | exact Nat.le_of_ble_eq_true rfl | omega) ?_
              refine z_sub (lv' := [(0, .ref (ax 0)), (1, .int x1)]) [0, 1] rfl ?_
              exact H390 x1 h
            · refine z_aload_n X 0 dL_slept_375 rfl rfl ?_
              obtain ⟨o43, e44, h⟩ := bnd_p h
              obtain ⟨hz45, h⟩ := grd_p h
              obtain ⟨wco43, wdo43, hNo43, bo43, do43, xo43⟩ := nx_prankShare l hfl ev.ak ev.av ev.aS D g ad ax x o43.1 o43.2.1 o43.2.2 e44
              rw [xo43] at do43
              have fo43 := bk_E (E := []) bo43 do43
              refine z_exV (rest := []) (q0 := 0) (ci := 11) (ws' := ([] ++ OW g ax ad x)) X hK.1 hA k_X11_prankShare hNo43 ql_L_X11_prankShare dL_slept_376 fo43.1 fo43.2 rfl rfl rfl rfl rfl ⟨Nat.le_of_ble_eq_true rfl, Nat.le_of_ble_eq_true rfl, rfl, rfl, (Nat.le_trans (m := 2432) (by first | exact Nat.le_of_ble_eq_true rfl | omega) (Nat.le_of_ble_eq_true rfl)), (Nat.le_trans (m := 14592) (by first | exact Nat.le_of_ble_eq_true rfl | omega) (Nat.le_of_ble_eq_true rfl))⟩ (Nat.le_of_ble_eq_true rfl) (fun _ => ?_) (fun q => absurd hz45 q)
              refine z_iload X 2 dL_slept_379 rfl ?_
              refine z_i2f X dL_slept_381 ?_
              refine z_iload X 4 dL_slept_382 rfl ?_
              refine z_i2f X dL_slept_384 ?_
              obtain ⟨e46, h⟩ := grd_p h
              refine z_fdiv X e46 dL_slept_385 ?_
              refine z_fcmp X dL_slept_386 ?_
              refine z_if_ne X 438 dL_slept_387 (by decide) h (fun _ h => ?_) (fun _ h => ?_)
              · refine z_widen (k := 2427) (n := 14562) (by first | exact Nat.le_of_ble_eq_true rfl | omega) (by first | exact Nat.le_of_ble_eq_true rfl | omega) ?_
                refine z_sub (lv' := [(0, .ref (ax 0)), (1, .int x1)]) [0, 1] rfl ?_
                exact H390 x1 h
              · cases h
        · cases h
      · cases h
    · cases h
  have H303 : ∀ (t0 : Int32) (t1 : Int32) (x1 : Int32) (x4 : Int32) (x5 : Int32) (x6 : Int32) (x7 : Int32), J_L_slept_303 x t0 t1 x1 x4 x5 x6 x7 = some o → Z p l e { frames := 11, cells := 2432, slots := 14592, locals := 199 } s m args below meth c Q 10 2421 14526 (IW D A s ([] ++ OW g ax ad x)) 303 [(0, .ref (ax 0)), (1, .int x1), (4, .int x4), (5, .int x5), (6, .int x6), (7, .int x7)] [.int t0, .int t1] := by
    intro t0 t1 x1 x4 x5 x6 x7 h
    refine z_icmp_ne X 438 dL_slept_303 (by decide) h (fun _ h => ?_) (fun _ h => ?_)
    · refine z_iload_n X 1 dL_slept_306 rfl rfl ?_
      refine z_if_eq X 324 dL_slept_307 (by decide) h (fun _ h => ?_) (fun _ h => ?_)
      · refine z_widen (k := 2422) (n := 14532) (by first | exact Nat.le_of_ble_eq_true rfl | omega) (by first | exact Nat.le_of_ble_eq_true rfl | omega) ?_
        refine z_sub (lv' := [(0, .ref (ax 0)), (1, .int x1), (5, .int x5), (6, .int x6), (7, .int x7)]) [0, 1, 3, 4, 5] rfl ?_
        exact H324 x1 x5 x6 x7 h
      · refine z_aload_n X 0 dL_slept_310 rfl rfl ?_
        obtain ⟨o47, e48, h⟩ := bnd_p h
        obtain ⟨hz49, h⟩ := grd_p h
        obtain ⟨wco47, wdo47, hNo47, bo47, do47, xo47⟩ := nx_meanSleep l hfl ev.ak ev.av ev.aS D g ad ax x o47.1 o47.2.1 o47.2.2 e48
        rw [xo47] at do47
        have fo47 := bk_E (E := []) bo47 do47
        refine z_exV (rest := []) (q0 := 0) (ci := 11) (ws' := ([] ++ OW g ax ad x)) X hK.1 hA k_X11_meanSleep hNo47 ql_L_X11_meanSleep dL_slept_311 fo47.1 fo47.2 rfl rfl rfl rfl rfl ⟨Nat.le_of_ble_eq_true rfl, Nat.le_of_ble_eq_true rfl, rfl, rfl, (Nat.le_trans (m := 2432) (by first | exact Nat.le_of_ble_eq_true rfl | omega) (Nat.le_of_ble_eq_true rfl)), (Nat.le_trans (m := 14592) (by first | exact Nat.le_of_ble_eq_true rfl | omega) (Nat.le_of_ble_eq_true rfl))⟩ (Nat.le_of_ble_eq_true rfl) (fun _ => ?_) (fun q => absurd hz49 q)
        refine z_iload X 2 dL_slept_314 rfl ?_
        refine z_i2d X dL_slept_316 ?_
        refine z_iload_n X 1 dL_slept_317 rfl rfl ?_
        refine z_i2d X dL_slept_318 ?_
        obtain ⟨e50, h⟩ := grd_p h
        refine z_ddiv X e50 dL_slept_319 ?_
        refine z_dcmp X dL_slept_320 ?_
        refine z_if_ne X 438 dL_slept_321 (by decide) h (fun _ h => ?_) (fun _ h => ?_)
        · refine z_widen (k := 2422) (n := 14532) (by first | exact Nat.le_of_ble_eq_true rfl | omega) (by first | exact Nat.le_of_ble_eq_true rfl | omega) ?_
          refine z_sub (lv' := [(0, .ref (ax 0)), (1, .int x1), (5, .int x5), (6, .int x6), (7, .int x7)]) [0, 1, 3, 4, 5] rfl ?_
          exact H324 x1 x5 x6 x7 h
        · cases h
    · cases h
  have H130 : ∀ (n : Nat) (x1 : Int32) (x2 : Int32) (x3 : Int32) (x4 : Int32) (x5 : Int32) (x6 : Int32) (x7 : Int32) (c130 s130 : Nat), c130 + 115 * n ≤ 2416 → s130 + 690 * n ≤ 14496 → L_L_slept_130 x n x1 x2 x3 x4 x5 x6 x7 = some o → Z p l e { frames := 11, cells := 2432, slots := 14592, locals := 199 } s m args below meth c Q 10 c130 s130 (IW D A s ([] ++ OW g ax ad x)) 130 [(0, .ref (ax 0)), (1, .int x1), (2, .int x2), (3, .int x3), (4, .int x4), (5, .int x5), (6, .int x6), (7, .int x7)] [] := by
    intro n
    induction n with
    | zero => intro x1 x2 x3 x4 x5 x6 x7 c130 s130 _ _ h; cases h
    | succ n130 ih130 =>
      intro x1 x2 x3 x4 x5 x6 x7 c130 s130 hc130 hs130 h
      have H240 : ∀ (t0 : Int32) (t1 : Int32) (x1 : Int32) (x2 : Int32) (x3 : Int32) (x4 : Int32) (x5 : Int32) (x6 : Int32) (x7 : Int32), J_L_slept_240 x (L_L_slept_130 x n130) t0 t1 x1 x2 x3 x4 x5 x6 x7 = some o → Z p l e { frames := 11, cells := 2432, slots := 14592, locals := 199 } s m args below meth c Q 10 (c130 + 113) (s130 + 678) (IW D A s ([] ++ OW g ax ad x)) 240 [(0, .ref (ax 0)), (1, .int x1), (2, .int x2), (3, .int x3), (4, .int x4), (5, .int x5), (6, .int x6), (7, .int x7)] [.int t0, .int t1] := by
        intro t0 t1 x1 x2 x3 x4 x5 x6 x7 h
        refine z_icmp_ne X 256 dL_slept_240 (by decide) h (fun _ h => ?_) (fun _ h => ?_)
        · refine z_aload_n X 0 dL_slept_243 rfl rfl ?_
          refine z_iload X 7 dL_slept_244 rfl ?_
          refine z_bipush X (8 : Int32) dL_slept_246 (by decide) ?_
          obtain ⟨o69, e70, h⟩ := bnd_p h
          have f71 := bk_appP (X := OW g ax ad x) (X' := OW g ax ad x) (perm_of (n := 0) (E := []) (wc := []) (wr := []) [] [] rfl rfl rfl (by decide +kernel)) (perm_of (n := 0) (E := []) (wc := []) (wr := []) [] [] rfl rfl rfl (by decide +kernel)) rfl OW_fst
          refine z_gSH (rest := []) (ws' := ([] ++ OW g ax ad x)) X (KF_ok ev) (kc_of (KF_ok ev) (fun _ _ _ q => q) hK hA f71.1) hA k_L_of (c_L_of l hfl ev D g ad ax x7 (8 : Int32) x o69 e70) ql_L_L_of dL_slept_248 f71.1 f71.2 rfl rfl ⟨Nat.le_of_ble_eq_true rfl, Nat.le_of_ble_eq_true rfl, rfl, rfl, (Nat.le_trans (m := 2432) (by first | exact Nat.le_of_ble_eq_true rfl | omega) (Nat.le_of_ble_eq_true rfl)), (Nat.le_trans (m := 14592) (by first | exact Nat.le_of_ble_eq_true rfl | omega) (Nat.le_of_ble_eq_true rfl))⟩ (Nat.le_of_ble_eq_true rfl) ?_
          refine z_bipush X ((-12) : Int32) dL_slept_251 (by decide) ?_
          refine z_icmp_eq X 258 dL_slept_253 (by decide) h (fun _ h => ?_) (fun _ h => ?_)
          · refine z_iinc X 7 [(7, .int (x7 + 1)), (0, .ref (ax 0)), (1, .int x1), (2, .int x2), (3, .int x3), (4, .int x4), (5, .int x5), (6, .int x6)] dL_slept_258 rfl rfl (by decide) rfl ?_
            refine z_goto X 130 dL_slept_261 (by decide) ?_
            refine z_sub (lv' := [(0, .ref (ax 0)), (1, .int x1), (2, .int x2), (3, .int x3), (4, .int x4), (5, .int x5), (6, .int x6), (7, .int (x7 + 1))]) [1, 2, 3, 4, 5, 6, 7, 0] rfl ?_
            exact ih130 x1 x2 x3 x4 x5 x6 (x7 + 1) _ _ (by omega) (by omega) h
          · cases h
        · cases h
      have H142 : ∀ (n : Nat) (x1 : Int32) (x2 : Int32) (x3 : Int32) (x4 : Int32) (x5 : Int32) (x6 : Int32) (x7 : Int32) (x8 : Int32) (x9 : Int32) (c142 s142 : Nat), c142 + 4 * n ≤ (c130 + 100) → s142 + 24 * n ≤ (s130 + 600) → L_L_slept_142 x (L_L_slept_130 x n130) n x1 x2 x3 x4 x5 x6 x7 x8 x9 = some o → Z p l e { frames := 11, cells := 2432, slots := 14592, locals := 199 } s m args below meth c Q 10 c142 s142 (IW D A s ([] ++ OW g ax ad x)) 142 [(0, .ref (ax 0)), (1, .int x1), (2, .int x2), (3, .int x3), (4, .int x4), (5, .int x5), (6, .int x6), (7, .int x7), (8, .int x8), (9, .int x9)] [] := by
        intro n
        induction n with
        | zero => intro x1 x2 x3 x4 x5 x6 x7 x8 x9 c142 s142 _ _ h; cases h
        | succ n142 ih142 =>
          intro x1 x2 x3 x4 x5 x6 x7 x8 x9 c142 s142 hc142 hs142 h
          have H167 : ∀ (t0 : Int32) (t1 : Int32) (x1 : Int32) (x2 : Int32) (x3 : Int32) (x4 : Int32) (x5 : Int32) (x6 : Int32) (x7 : Int32) (x9 : Int32), J_L_slept_167 x (L_L_slept_130 x n130) (L_L_slept_142 x (L_L_slept_130 x n130) n142) t0 t1 x1 x2 x3 x4 x5 x6 x7 x9 = some o → Z p l e { frames := 11, cells := 2432, slots := 14592, locals := 199 } s m args below meth c Q 10 (c142 + 4) (s142 + 24) (IW D A s ([] ++ OW g ax ad x)) 167 [(0, .ref (ax 0)), (1, .int x1), (2, .int x2), (3, .int x3), (4, .int x4), (5, .int x5), (6, .int x6), (7, .int x7), (9, .int x9)] [.int t0, .int t1] := by
            intro t0 t1 x1 x2 x3 x4 x5 x6 x7 x9 h
            refine z_iadd X dL_slept_167 ?_
            refine z_istore X [(8, .int (t1 + t0)), (0, .ref (ax 0)), (1, .int x1), (2, .int x2), (3, .int x3), (4, .int x4), (5, .int x5), (6, .int x6), (7, .int x7), (9, .int x9)] dL_slept_168 (by decide) rfl ?_
            refine z_iinc X 9 [(9, .int (x9 + 1)), (8, .int (t1 + t0)), (0, .ref (ax 0)), (1, .int x1), (2, .int x2), (3, .int x3), (4, .int x4), (5, .int x5), (6, .int x6), (7, .int x7)] dL_slept_170 rfl rfl (by decide) rfl ?_
            refine z_goto X 142 dL_slept_173 (by decide) ?_
            refine z_sub (lv' := [(0, .ref (ax 0)), (1, .int x1), (2, .int x2), (3, .int x3), (4, .int x4), (5, .int x5), (6, .int x6), (7, .int x7), (8, .int (t1 + t0)), (9, .int (x9 + 1))]) [2, 3, 4, 5, 6, 7, 8, 9, 1, 0] rfl ?_
            exact ih142 x1 x2 x3 x4 x5 x6 x7 (t1 + t0) (x9 + 1) _ _ (by omega) (by omega) h
          refine z_iload X 9 dL_slept_142 rfl ?_
          refine z_bipush X (24 : Int32) dL_slept_144 (by decide) ?_
          refine z_icmp_ge X 176 dL_slept_146 (by decide) h (fun _ h => ?_) (fun _ h => ?_)
          · refine z_widen (k := (c130 + 100)) (n := (s130 + 600)) (by omega) (by omega) ?_
            refine z_iload X 5 dL_slept_176 rfl ?_
            refine z_aload_n X 0 dL_slept_178 rfl rfl ?_
            refine z_iload X 7 dL_slept_179 rfl ?_
            refine z_iconst X (4 : Int32) dL_slept_181 (by decide) ?_
            obtain ⟨o51, e52, h⟩ := bnd_p h
            have f53 := bk_appP (X := OW g ax ad x) (X' := OW g ax ad x) (perm_of (n := 0) (E := []) (wc := []) (wr := []) [] [] rfl rfl rfl (by decide +kernel)) (perm_of (n := 0) (E := []) (wc := []) (wr := []) [] [] rfl rfl rfl (by decide +kernel)) rfl OW_fst
            refine z_gSH (rest := [.int x5]) (ws' := ([] ++ OW g ax ad x)) X (KF_ok ev) (kc_of (KF_ok ev) (fun _ _ _ q => q) hK hA f53.1) hA k_L_of (c_L_of l hfl ev D g ad ax x7 (4 : Int32) x o51 e52) ql_L_L_of dL_slept_182 f53.1 f53.2 rfl rfl ⟨Nat.le_of_ble_eq_true rfl, Nat.le_of_ble_eq_true rfl, rfl, rfl, (Nat.le_trans (m := 2432) (by first | exact Nat.le_of_ble_eq_true rfl | omega) (Nat.le_of_ble_eq_true rfl)), (Nat.le_trans (m := 14592) (by first | exact Nat.le_of_ble_eq_true rfl | omega) (Nat.le_of_ble_eq_true rfl))⟩ (Nat.le_of_ble_eq_true rfl) ?_
            refine z_iadd X dL_slept_185 ?_
            refine z_istore X [(5, .int (x5 + o51)), (0, .ref (ax 0)), (1, .int x1), (2, .int x2), (3, .int x3), (4, .int x4), (6, .int x6), (7, .int x7), (8, .int x8), (9, .int x9)] dL_slept_186 (by decide) rfl ?_
            refine z_iload X 6 dL_slept_188 rfl ?_
            refine z_aload_n X 1 dL_slept_190 rfl rfl ?_
            refine z_iload X 7 dL_slept_191 rfl ?_
            refine z_iconst X (3 : Int32) dL_slept_193 (by decide) ?_
            obtain ⟨o54, e55, h⟩ := bnd_p h
            have f56 := bk_appP (X := OW g ax ad x) (X' := OW g ax ad x) (perm_of (n := 0) (E := []) (wc := []) (wr := []) [] [] rfl rfl rfl (by decide +kernel)) (perm_of (n := 0) (E := []) (wc := []) (wr := []) [] [] rfl rfl rfl (by decide +kernel)) rfl OW_fst
            refine z_gSH (rest := [.int x6]) (ws' := ([] ++ OW g ax ad x)) X (KF_ok ev) (kc_of (KF_ok ev) (fun _ _ _ q => q) hK hA f56.1) hA k_L_of (c_L_of l hfl ev D g ad ax x7 (3 : Int32) x o54 e55) ql_L_L_of dL_slept_194 f56.1 f56.2 rfl rfl ⟨Nat.le_of_ble_eq_true rfl, Nat.le_of_ble_eq_true rfl, rfl, rfl, (Nat.le_trans (m := 2432) (by first | exact Nat.le_of_ble_eq_true rfl | omega) (Nat.le_of_ble_eq_true rfl)), (Nat.le_trans (m := 14592) (by first | exact Nat.le_of_ble_eq_true rfl | omega) (Nat.le_of_ble_eq_true rfl))⟩ (Nat.le_of_ble_eq_true rfl) ?_
            refine z_iadd X dL_slept_197 ?_
            refine z_istore X [(6, .int (x6 + o54)), (5, .int (x5 + o51)), (0, .ref (ax 0)), (1, .int x1), (2, .int x2), (3, .int x3), (4, .int x4), (7, .int x7), (8, .int x8), (9, .int x9)] dL_slept_198 (by decide) rfl ?_
            refine z_aload_n X 2 dL_slept_200 rfl rfl ?_
            refine z_iload X 7 dL_slept_201 rfl ?_
            refine z_bipush X (7 : Int32) dL_slept_203 (by decide) ?_
            obtain ⟨o57, e58, h⟩ := bnd_p h
            have f59 := bk_appP (X := OW g ax ad x) (X' := OW g ax ad x) (perm_of (n := 0) (E := []) (wc := []) (wr := []) [] [] rfl rfl rfl (by decide +kernel)) (perm_of (n := 0) (E := []) (wc := []) (wr := []) [] [] rfl rfl rfl (by decide +kernel)) rfl OW_fst
            refine z_gSH (rest := []) (ws' := ([] ++ OW g ax ad x)) X (KF_ok ev) (kc_of (KF_ok ev) (fun _ _ _ q => q) hK hA f59.1) hA k_L_of (c_L_of l hfl ev D g ad ax x7 (7 : Int32) x o57 e58) ql_L_L_of dL_slept_205 f59.1 f59.2 rfl rfl ⟨Nat.le_of_ble_eq_true rfl, Nat.le_of_ble_eq_true rfl, rfl, rfl, (Nat.le_trans (m := 2432) (by first | exact Nat.le_of_ble_eq_true rfl | omega) (Nat.le_of_ble_eq_true rfl)), (Nat.le_trans (m := 14592) (by first | exact Nat.le_of_ble_eq_true rfl | omega) (Nat.le_of_ble_eq_true rfl))⟩ (Nat.le_of_ble_eq_true rfl) ?_
            refine z_iload X 8 dL_slept_208 rfl ?_
            refine z_icmp_ne X 256 dL_slept_210 (by decide) h (fun _ h => ?_) (fun _ h => ?_)
            · refine z_aload_n X 2 dL_slept_213 rfl rfl ?_
              refine z_iload X 7 dL_slept_214 rfl ?_
              refine z_bipush X (6 : Int32) dL_slept_216 (by decide) ?_
              obtain ⟨o60, e61, h⟩ := bnd_p h
              have f62 := bk_appP (X := OW g ax ad x) (X' := OW g ax ad x) (perm_of (n := 0) (E := []) (wc := []) (wr := []) [] [] rfl rfl rfl (by decide +kernel)) (perm_of (n := 0) (E := []) (wc := []) (wr := []) [] [] rfl rfl rfl (by decide +kernel)) rfl OW_fst
              refine z_gSH (rest := []) (ws' := ([] ++ OW g ax ad x)) X (KF_ok ev) (kc_of (KF_ok ev) (fun _ _ _ q => q) hK hA f62.1) hA k_L_of (c_L_of l hfl ev D g ad ax x7 (6 : Int32) x o60 e61) ql_L_L_of dL_slept_218 f62.1 f62.2 rfl rfl ⟨Nat.le_of_ble_eq_true rfl, Nat.le_of_ble_eq_true rfl, rfl, rfl, (Nat.le_trans (m := 2432) (by first | exact Nat.le_of_ble_eq_true rfl | omega) (Nat.le_of_ble_eq_true rfl)), (Nat.le_trans (m := 14592) (by first | exact Nat.le_of_ble_eq_true rfl | omega) (Nat.le_of_ble_eq_true rfl))⟩ (Nat.le_of_ble_eq_true rfl) ?_
              refine z_aload_n X 2 dL_slept_221 rfl rfl ?_
              refine z_iload X 7 dL_slept_222 rfl ?_
              refine z_aload_n X 2 dL_slept_224 rfl rfl ?_
              refine z_iconst X (0 : Int32) dL_slept_225 (by decide) ?_
              obtain ⟨o63, e64, h⟩ := bnd_p h
              obtain ⟨hz65, h⟩ := grd_p h
              obtain ⟨wco63, wdo63, hNo63, bo63, do63, xo63⟩ := nx_account l hfl ev.ak ev.av ev.aS D g ad ax (0 : Int32) x o63.1 o63.2.1 o63.2.2 e64
              rw [xo63] at do63
              have fo63 := bk_E (E := []) bo63 do63
              refine z_exV (rest := [.int x7, .ref (ax 0), .int o60]) (q0 := 0) (ci := 11) (ws' := ([] ++ OW g ax ad x)) X hK.1 hA k_X11_account hNo63 ql_L_X11_account dL_slept_226 fo63.1 fo63.2 rfl rfl rfl rfl rfl ⟨Nat.le_of_ble_eq_true rfl, Nat.le_of_ble_eq_true rfl, rfl, rfl, (Nat.le_trans (m := 2432) (by first | exact Nat.le_of_ble_eq_true rfl | omega) (Nat.le_of_ble_eq_true rfl)), (Nat.le_trans (m := 14592) (by first | exact Nat.le_of_ble_eq_true rfl | omega) (Nat.le_of_ble_eq_true rfl))⟩ (Nat.le_of_ble_eq_true rfl) (fun _ => ?_) (fun q => absurd hz65 q)
              obtain ⟨o66, e67, h⟩ := bnd_p h
              have f68 := bk_appP (X := OW g ax ad x) (X' := OW g ax ad x) (perm_of (n := 0) (E := []) (wc := []) (wr := []) [] [] rfl rfl rfl (by decide +kernel)) (perm_of (n := 0) (E := []) (wc := []) (wr := []) [] [] rfl rfl rfl (by decide +kernel)) rfl OW_fst
              refine z_gS (rest := [.int o60]) (ws' := ([] ++ OW g ax ad x)) X (KF_ok ev) (kc_of (KF_ok ev) (fun _ _ _ q => q) hK hA f68.1) hA k_L_sleeps (c_L_sleeps l hfl ev D g ad ax x7 o63.2.1 x o66 e67) ql_L_L_sleeps dL_slept_229 f68.1 f68.2 rfl rfl ⟨Nat.le_of_ble_eq_true rfl, Nat.le_of_ble_eq_true rfl, rfl, rfl, (Nat.le_trans (m := 2432) (by first | exact Nat.le_of_ble_eq_true rfl | omega) (Nat.le_of_ble_eq_true rfl)), (Nat.le_trans (m := 14592) (by first | exact Nat.le_of_ble_eq_true rfl | omega) (Nat.le_of_ble_eq_true rfl))⟩ (Nat.le_of_ble_eq_true rfl) ?_
              refine z_if_eq X 239 dL_slept_232 (by decide) h (fun _ h => ?_) (fun _ h => ?_)
              · refine z_iconst X (0 : Int32) dL_slept_239 (by decide) ?_
                refine z_widen (k := (c130 + 113)) (n := (s130 + 678)) (by first | exact Nat.le_of_ble_eq_true rfl | omega) (by first | exact Nat.le_of_ble_eq_true rfl | omega) ?_
                refine z_sub (lv' := [(0, .ref (ax 0)), (1, .int x1), (2, .int x2), (3, .int x3), (4, .int x4), (5, .int (x5 + o51)), (6, .int (x6 + o54)), (7, .int x7)]) [2, 3, 4, 5, 6, 1, 0, 7] rfl ?_
                exact H240 (0 : Int32) o60 x1 x2 x3 x4 (x5 + o51) (x6 + o54) x7 h
              · refine z_iconst X (1 : Int32) dL_slept_235 (by decide) ?_
                refine z_goto X 240 dL_slept_236 (by decide) ?_
                refine z_widen (k := (c130 + 113)) (n := (s130 + 678)) (by first | exact Nat.le_of_ble_eq_true rfl | omega) (by first | exact Nat.le_of_ble_eq_true rfl | omega) ?_
                refine z_sub (lv' := [(0, .ref (ax 0)), (1, .int x1), (2, .int x2), (3, .int x3), (4, .int x4), (5, .int (x5 + o51)), (6, .int (x6 + o54)), (7, .int x7)]) [2, 3, 4, 5, 6, 1, 0, 7] rfl ?_
                exact H240 (1 : Int32) o60 x1 x2 x3 x4 (x5 + o51) (x6 + o54) x7 h
            · cases h
          · refine z_iload X 8 dL_slept_149 rfl ?_
            refine z_aload_n X 0 dL_slept_151 rfl rfl ?_
            refine z_iload X 7 dL_slept_152 rfl ?_
            refine z_iload X 9 dL_slept_154 rfl ?_
            obtain ⟨o72, e73, h⟩ := bnd_p h
            have f74 := bk_appP (X := OW g ax ad x) (X' := OW g ax ad x) (perm_of (n := 0) (E := []) (wc := []) (wr := []) [] [] rfl rfl rfl (by decide +kernel)) (perm_of (n := 0) (E := []) (wc := []) (wr := []) [] [] rfl rfl rfl (by decide +kernel)) rfl OW_fst
            refine z_gS (rest := [.int x8]) (ws' := ([] ++ OW g ax ad x)) X (KF_ok ev) (kc_of (KF_ok ev) (fun _ _ _ q => q) hK hA f74.1) hA k_L_sleeps (c_L_sleeps l hfl ev D g ad ax x7 x9 x o72 e73) ql_L_L_sleeps dL_slept_156 f74.1 f74.2 rfl rfl ⟨Nat.le_of_ble_eq_true rfl, Nat.le_of_ble_eq_true rfl, rfl, rfl, (Nat.le_trans (m := 2432) (by first | exact Nat.le_of_ble_eq_true rfl | omega) (Nat.le_of_ble_eq_true rfl)), (Nat.le_trans (m := 14592) (by first | exact Nat.le_of_ble_eq_true rfl | omega) (Nat.le_of_ble_eq_true rfl))⟩ (Nat.le_of_ble_eq_true rfl) ?_
            refine z_if_eq X 166 dL_slept_159 (by decide) h (fun _ h => ?_) (fun _ h => ?_)
            · refine z_iconst X (0 : Int32) dL_slept_166 (by decide) ?_
              refine z_widen (k := (c142 + 4)) (n := (s142 + 24)) (by first | exact Nat.le_of_ble_eq_true rfl | omega) (by first | exact Nat.le_of_ble_eq_true rfl | omega) ?_
              refine z_sub (lv' := [(0, .ref (ax 0)), (1, .int x1), (2, .int x2), (3, .int x3), (4, .int x4), (5, .int x5), (6, .int x6), (7, .int x7), (9, .int x9)]) [0, 1, 2, 3, 4, 5, 6, 7, 9] rfl ?_
              exact H167 (0 : Int32) x8 x1 x2 x3 x4 x5 x6 x7 x9 h
            · refine z_iconst X (1 : Int32) dL_slept_162 (by decide) ?_
              refine z_goto X 167 dL_slept_163 (by decide) ?_
              refine z_widen (k := (c142 + 4)) (n := (s142 + 24)) (by first | exact Nat.le_of_ble_eq_true rfl | omega) (by first | exact Nat.le_of_ble_eq_true rfl | omega) ?_
              refine z_sub (lv' := [(0, .ref (ax 0)), (1, .int x1), (2, .int x2), (3, .int x3), (4, .int x4), (5, .int x5), (6, .int x6), (7, .int x7), (9, .int x9)]) [0, 1, 2, 3, 4, 5, 6, 7, 9] rfl ?_
              exact H167 (1 : Int32) x8 x1 x2 x3 x4 x5 x6 x7 x9 h
      refine z_iload X 7 dL_slept_130 rfl ?_
      refine z_iload_n X 1 dL_slept_132 rfl rfl ?_
      refine z_icmp_ge X 264 dL_slept_133 (by decide) h (fun _ h => ?_) (fun _ h => ?_)
      · refine z_widen (k := 2416) (n := 14496) (by omega) (by omega) ?_
        refine z_aload_n X 0 dL_slept_264 rfl rfl ?_
        refine z_iconst X (0 : Int32) dL_slept_265 (by decide) ?_
        obtain ⟨o4, e5, h⟩ := bnd_p h
        have f6 := bk_appP (X := OW g ax ad x) (X' := OW g ax ad x) (perm_of (n := 0) (E := []) (wc := []) (wr := []) [] [] rfl rfl rfl (by decide +kernel)) (perm_of (n := 0) (E := []) (wc := []) (wr := []) [] [] rfl rfl rfl (by decide +kernel)) rfl OW_fst
        refine z_gSH (rest := []) (ws' := ([] ++ OW g ax ad x)) X (KF_ok ev) (kc_of (KF_ok ev) (fun _ _ _ q => q) hK hA f6.1) hA k_L_rings (c_L_rings l hfl ev D g ad ax (0 : Int32) x o4 e5) ql_L_L_rings dL_slept_266 f6.1 f6.2 rfl rfl ⟨Nat.le_of_ble_eq_true rfl, Nat.le_of_ble_eq_true rfl, rfl, rfl, (Nat.le_trans (m := 2432) (by first | exact Nat.le_of_ble_eq_true rfl | omega) (Nat.le_of_ble_eq_true rfl)), (Nat.le_trans (m := 14592) (by first | exact Nat.le_of_ble_eq_true rfl | omega) (Nat.le_of_ble_eq_true rfl))⟩ (Nat.le_of_ble_eq_true rfl) ?_
        refine z_aload_n X 0 dL_slept_269 rfl rfl ?_
        refine z_iconst X (1 : Int32) dL_slept_270 (by decide) ?_
        obtain ⟨o7, e8, h⟩ := bnd_p h
        have f9 := bk_appP (X := OW g ax ad x) (X' := OW g ax ad x) (perm_of (n := 0) (E := []) (wc := []) (wr := []) [] [] rfl rfl rfl (by decide +kernel)) (perm_of (n := 0) (E := []) (wc := []) (wr := []) [] [] rfl rfl rfl (by decide +kernel)) rfl OW_fst
        refine z_gSH (rest := [.int o4]) (ws' := ([] ++ OW g ax ad x)) X (KF_ok ev) (kc_of (KF_ok ev) (fun _ _ _ q => q) hK hA f9.1) hA k_L_rings (c_L_rings l hfl ev D g ad ax (1 : Int32) x o7 e8) ql_L_L_rings dL_slept_271 f9.1 f9.2 rfl rfl ⟨Nat.le_of_ble_eq_true rfl, Nat.le_of_ble_eq_true rfl, rfl, rfl, (Nat.le_trans (m := 2432) (by first | exact Nat.le_of_ble_eq_true rfl | omega) (Nat.le_of_ble_eq_true rfl)), (Nat.le_trans (m := 14592) (by first | exact Nat.le_of_ble_eq_true rfl | omega) (Nat.le_of_ble_eq_true rfl))⟩ (Nat.le_of_ble_eq_true rfl) ?_
        refine z_iadd X dL_slept_274 ?_
        refine z_aload_n X 0 dL_slept_275 rfl rfl ?_
        refine z_iconst X (2 : Int32) dL_slept_276 (by decide) ?_
        obtain ⟨o10, e11, h⟩ := bnd_p h
        have f12 := bk_appP (X := OW g ax ad x) (X' := OW g ax ad x) (perm_of (n := 0) (E := []) (wc := []) (wr := []) [] [] rfl rfl rfl (by decide +kernel)) (perm_of (n := 0) (E := []) (wc := []) (wr := []) [] [] rfl rfl rfl (by decide +kernel)) rfl OW_fst
        refine z_gSH (rest := [.int (o4 + o7)]) (ws' := ([] ++ OW g ax ad x)) X (KF_ok ev) (kc_of (KF_ok ev) (fun _ _ _ q => q) hK hA f12.1) hA k_L_rings (c_L_rings l hfl ev D g ad ax (2 : Int32) x o10 e11) ql_L_L_rings dL_slept_277 f12.1 f12.2 rfl rfl ⟨Nat.le_of_ble_eq_true rfl, Nat.le_of_ble_eq_true rfl, rfl, rfl, (Nat.le_trans (m := 2432) (by first | exact Nat.le_of_ble_eq_true rfl | omega) (Nat.le_of_ble_eq_true rfl)), (Nat.le_trans (m := 14592) (by first | exact Nat.le_of_ble_eq_true rfl | omega) (Nat.le_of_ble_eq_true rfl))⟩ (Nat.le_of_ble_eq_true rfl) ?_
        refine z_iadd X dL_slept_280 ?_
        refine z_aload_n X 0 dL_slept_281 rfl rfl ?_
        refine z_iconst X (3 : Int32) dL_slept_282 (by decide) ?_
        obtain ⟨o13, e14, h⟩ := bnd_p h
        have f15 := bk_appP (X := OW g ax ad x) (X' := OW g ax ad x) (perm_of (n := 0) (E := []) (wc := []) (wr := []) [] [] rfl rfl rfl (by decide +kernel)) (perm_of (n := 0) (E := []) (wc := []) (wr := []) [] [] rfl rfl rfl (by decide +kernel)) rfl OW_fst
        refine z_gSH (rest := [.int ((o4 + o7) + o10)]) (ws' := ([] ++ OW g ax ad x)) X (KF_ok ev) (kc_of (KF_ok ev) (fun _ _ _ q => q) hK hA f15.1) hA k_L_rings (c_L_rings l hfl ev D g ad ax (3 : Int32) x o13 e14) ql_L_L_rings dL_slept_283 f15.1 f15.2 rfl rfl ⟨Nat.le_of_ble_eq_true rfl, Nat.le_of_ble_eq_true rfl, rfl, rfl, (Nat.le_trans (m := 2432) (by first | exact Nat.le_of_ble_eq_true rfl | omega) (Nat.le_of_ble_eq_true rfl)), (Nat.le_trans (m := 14592) (by first | exact Nat.le_of_ble_eq_true rfl | omega) (Nat.le_of_ble_eq_true rfl))⟩ (Nat.le_of_ble_eq_true rfl) ?_
        refine z_iadd X dL_slept_286 ?_
        refine z_istore X [(7, .int (((o4 + o7) + o10) + o13)), (0, .ref (ax 0)), (1, .int x1), (2, .int x2), (3, .int x3), (4, .int x4), (5, .int x5), (6, .int x6)] dL_slept_287 (by decide) rfl ?_
        refine z_aload_n X 1 dL_slept_289 rfl rfl ?_
        obtain ⟨o16, e17, h⟩ := bnd_p h
        have f18 := bk_appP (X := OW g ax ad x) (X' := OW g ax ad x) (perm_of (n := 0) (E := []) (wc := []) (wr := []) [] [] rfl rfl rfl (by decide +kernel)) (perm_of (n := 0) (E := []) (wc := []) (wr := []) [] [] rfl rfl rfl (by decide +kernel)) rfl OW_fst
        refine z_gSH (rest := []) (ws' := ([] ++ OW g ax ad x)) X (KF_ok ev) (kc_of (KF_ok ev) (fun _ _ _ q => q) hK hA f18.1) hA k_L_deepest (c_L_deepest l hfl ev D g ad ax x o16 e17) ql_L_L_deepest dL_slept_290 f18.1 f18.2 rfl rfl ⟨Nat.le_of_ble_eq_true rfl, Nat.le_of_ble_eq_true rfl, rfl, rfl, (Nat.le_trans (m := 2432) (by first | exact Nat.le_of_ble_eq_true rfl | omega) (Nat.le_of_ble_eq_true rfl)), (Nat.le_trans (m := 14592) (by first | exact Nat.le_of_ble_eq_true rfl | omega) (Nat.le_of_ble_eq_true rfl))⟩ (Nat.le_of_ble_eq_true rfl) ?_
        refine z_iload_n X 4 dL_slept_293 rfl rfl ?_
        refine z_if_ne X 302 dL_slept_294 (by decide) h (fun _ h => ?_) (fun _ h => ?_)
        · refine z_bipush X ((-13) : Int32) dL_slept_297 (by decide) ?_
          refine z_goto X 303 dL_slept_299 (by decide) ?_
          refine z_widen (k := 2421) (n := 14526) (by first | exact Nat.le_of_ble_eq_true rfl | omega) (by first | exact Nat.le_of_ble_eq_true rfl | omega) ?_
          refine z_sub (lv' := [(0, .ref (ax 0)), (1, .int x1), (4, .int x4), (5, .int x5), (6, .int x6), (7, .int (((o4 + o7) + o10) + o13))]) [1, 2, 5, 6, 7, 0] rfl ?_
          exact H303 ((-13) : Int32) o16 x1 x4 x5 x6 (((o4 + o7) + o10) + o13) h
        · refine z_iload_n X 3 dL_slept_302 rfl rfl ?_
          refine z_widen (k := 2421) (n := 14526) (by first | exact Nat.le_of_ble_eq_true rfl | omega) (by first | exact Nat.le_of_ble_eq_true rfl | omega) ?_
          refine z_sub (lv' := [(0, .ref (ax 0)), (1, .int x1), (4, .int x4), (5, .int x5), (6, .int x6), (7, .int (((o4 + o7) + o10) + o13))]) [1, 2, 5, 6, 7, 0] rfl ?_
          exact H303 x2 o16 x1 x4 x5 x6 (((o4 + o7) + o10) + o13) h
      · refine z_iconst X (0 : Int32) dL_slept_136 (by decide) ?_
        refine z_istore X [(8, .int (0 : Int32)), (0, .ref (ax 0)), (1, .int x1), (2, .int x2), (3, .int x3), (4, .int x4), (5, .int x5), (6, .int x6), (7, .int x7)] dL_slept_137 (by decide) rfl ?_
        refine z_iconst X (0 : Int32) dL_slept_139 (by decide) ?_
        refine z_istore X [(9, .int (0 : Int32)), (8, .int (0 : Int32)), (0, .ref (ax 0)), (1, .int x1), (2, .int x2), (3, .int x3), (4, .int x4), (5, .int x5), (6, .int x6), (7, .int x7)] dL_slept_140 (by decide) rfl ?_
        refine z_sub (lv' := [(0, .ref (ax 0)), (1, .int x1), (2, .int x2), (3, .int x3), (4, .int x4), (5, .int x5), (6, .int x6), (7, .int x7), (8, .int (0 : Int32)), (9, .int (0 : Int32))]) [2, 3, 4, 5, 6, 7, 8, 9, 1, 0] rfl ?_
        exact H142 25 x1 x2 x3 x4 x5 x6 x7 (0 : Int32) (0 : Int32) _ _ (by first | exact Nat.le_of_ble_eq_true rfl | omega) (by first | exact Nat.le_of_ble_eq_true rfl | omega) h
  have H16 : ∀ (n : Nat) (x1 : Int32) (x2 : Int32) (x3 : Int32) (x4 : Int32) (x5 : Int32) (c16 s16 : Nat), c16 + 46 * n ≤ 1151 → s16 + 276 * n ≤ 6906 → L_L_slept_16 x n x1 x2 x3 x4 x5 = some o → Z p l e { frames := 11, cells := 2432, slots := 14592, locals := 199 } s m args below meth c Q 10 c16 s16 (IW D A s ([] ++ OW g ax ad x)) 16 [(0, .ref (ax 0)), (1, .int x1), (2, .int x2), (3, .int x3), (4, .int x4), (5, .int x5)] [] := by
    intro n
    induction n with
    | zero => intro x1 x2 x3 x4 x5 c16 s16 _ _ h; cases h
    | succ n16 ih16 =>
      intro x1 x2 x3 x4 x5 c16 s16 hc16 hs16 h
      have H81 : ∀ (t0 : Int32) (x1 : Int32) (x3 : Int32) (x4 : Int32) (x5 : Int32) (x6 : Int32), J_L_slept_81 x (L_L_slept_16 x n16) t0 x1 x3 x4 x5 x6 = some o → Z p l e { frames := 11, cells := 2432, slots := 14592, locals := 199 } s m args below meth c Q 10 (c16 + 44) (s16 + 264) (IW D A s ([] ++ OW g ax ad x)) 81 [(0, .ref (ax 0)), (1, .int x1), (3, .int x3), (4, .int x4), (5, .int x5), (6, .int x6)] [.int t0] := by
        intro t0 x1 x3 x4 x5 x6 h
        refine z_istore_n X [(2, .int t0), (0, .ref (ax 0)), (1, .int x1), (3, .int x3), (4, .int x4), (5, .int x5), (6, .int x6)] dL_slept_81 rfl (by decide) rfl ?_
        refine z_iload_n X 3 dL_slept_82 rfl rfl ?_
        refine z_iload X 6 dL_slept_83 rfl ?_
        refine z_mmax X ql_L_mmax dL_slept_85 (Nat.le_of_ble_eq_true rfl) (Nat.le_of_ble_eq_true rfl) (Nat.le_trans (m := 2432) (by first | exact Nat.le_of_ble_eq_true rfl | omega) (Nat.le_of_ble_eq_true rfl)) (Nat.le_trans (m := 14592) (by first | exact Nat.le_of_ble_eq_true rfl | omega) (Nat.le_of_ble_eq_true rfl)) ?_
        refine z_istore_n X [(3, .int (if x3 < x6 then x6 else x3)), (2, .int t0), (0, .ref (ax 0)), (1, .int x1), (4, .int x4), (5, .int x5), (6, .int x6)] dL_slept_88 rfl (by decide) rfl ?_
        refine z_aload_n X 2 dL_slept_89 rfl rfl ?_
        refine z_iload X 5 dL_slept_90 rfl ?_
        refine z_iconst X (0 : Int32) dL_slept_92 (by decide) ?_
        obtain ⟨o75, e76, h⟩ := bnd_p h
        have f77 := bk_appP (X := OW g ax ad x) (X' := OW g ax ad x) (perm_of (n := 0) (E := []) (wc := []) (wr := []) [] [] rfl rfl rfl (by decide +kernel)) (perm_of (n := 0) (E := []) (wc := []) (wr := []) [] [] rfl rfl rfl (by decide +kernel)) rfl OW_fst
        refine z_gSH (rest := []) (ws' := ([] ++ OW g ax ad x)) X (KF_ok ev) (kc_of (KF_ok ev) (fun _ _ _ q => q) hK hA f77.1) hA k_L_asleep (c_L_asleep l hfl ev D g ad ax x5 (0 : Int32) x o75 e76) ql_L_L_asleep dL_slept_93 f77.1 f77.2 rfl rfl ⟨Nat.le_of_ble_eq_true rfl, Nat.le_of_ble_eq_true rfl, rfl, rfl, (Nat.le_trans (m := 2432) (by first | exact Nat.le_of_ble_eq_true rfl | omega) (Nat.le_of_ble_eq_true rfl)), (Nat.le_trans (m := 14592) (by first | exact Nat.le_of_ble_eq_true rfl | omega) (Nat.le_of_ble_eq_true rfl))⟩ (Nat.le_of_ble_eq_true rfl) ?_
        refine z_iload X 6 dL_slept_96 rfl ?_
        refine z_icmp_ne X 113 dL_slept_98 (by decide) h (fun _ h => ?_) (fun _ h => ?_)
        · refine z_aload_n X 2 dL_slept_101 rfl rfl ?_
          refine z_iload X 5 dL_slept_102 rfl ?_
          refine z_iconst X (1 : Int32) dL_slept_104 (by decide) ?_
          obtain ⟨o78, e79, h⟩ := bnd_p h
          have f80 := bk_appP (X := OW g ax ad x) (X' := OW g ax ad x) (perm_of (n := 0) (E := []) (wc := []) (wr := []) [] [] rfl rfl rfl (by decide +kernel)) (perm_of (n := 0) (E := []) (wc := []) (wr := []) [] [] rfl rfl rfl (by decide +kernel)) rfl OW_fst
          refine z_gSH (rest := []) (ws' := ([] ++ OW g ax ad x)) X (KF_ok ev) (kc_of (KF_ok ev) (fun _ _ _ q => q) hK hA f80.1) hA k_L_asleep (c_L_asleep l hfl ev D g ad ax x5 (1 : Int32) x o78 e79) ql_L_L_asleep dL_slept_105 f80.1 f80.2 rfl rfl ⟨Nat.le_of_ble_eq_true rfl, Nat.le_of_ble_eq_true rfl, rfl, rfl, (Nat.le_trans (m := 2432) (by first | exact Nat.le_of_ble_eq_true rfl | omega) (Nat.le_of_ble_eq_true rfl)), (Nat.le_trans (m := 14592) (by first | exact Nat.le_of_ble_eq_true rfl | omega) (Nat.le_of_ble_eq_true rfl))⟩ (Nat.le_of_ble_eq_true rfl) ?_
          refine z_iload X 6 dL_slept_108 rfl ?_
          refine z_icmp_eq X 115 dL_slept_110 (by decide) h (fun _ h => ?_) (fun _ h => ?_)
          · refine z_iinc X 5 [(5, .int (x5 + 1)), (3, .int (if x3 < x6 then x6 else x3)), (2, .int t0), (0, .ref (ax 0)), (1, .int x1), (4, .int x4), (6, .int x6)] dL_slept_115 rfl rfl (by decide) rfl ?_
            refine z_goto X 16 dL_slept_118 (by decide) ?_
            refine z_sub (lv' := [(0, .ref (ax 0)), (1, .int x1), (2, .int t0), (3, .int (if x3 < x6 then x6 else x3)), (4, .int x4), (5, .int (x5 + 1))]) [3, 4, 2, 1, 5, 0] rfl ?_
            exact ih16 x1 t0 (if x3 < x6 then x6 else x3) x4 (x5 + 1) _ _ (by omega) (by omega) h
          · cases h
        · cases h
      have H29 : ∀ (n : Nat) (x1 : Int32) (x2 : Int32) (x3 : Int32) (x4 : Int32) (x5 : Int32) (x6 : Int32) (x7 : Int32) (c29 s29 : Nat), c29 + 4 * n ≤ (c16 + 44) → s29 + 24 * n ≤ (s16 + 264) → L_L_slept_29 x (L_L_slept_16 x n16) n x1 x2 x3 x4 x5 x6 x7 = some o → Z p l e { frames := 11, cells := 2432, slots := 14592, locals := 199 } s m args below meth c Q 10 c29 s29 (IW D A s ([] ++ OW g ax ad x)) 29 [(0, .ref (ax 0)), (1, .int x1), (2, .int x2), (3, .int x3), (4, .int x4), (5, .int x5), (6, .int x6), (7, .int x7)] [] := by
        intro n
        induction n with
        | zero => intro x1 x2 x3 x4 x5 x6 x7 c29 s29 _ _ h; cases h
        | succ n29 ih29 =>
          intro x1 x2 x3 x4 x5 x6 x7 c29 s29 hc29 hs29 h
          have H53 : ∀ (t0 : Int32) (t1 : Int32) (x1 : Int32) (x2 : Int32) (x3 : Int32) (x4 : Int32) (x5 : Int32) (x7 : Int32), J_L_slept_53 x (L_L_slept_16 x n16) (L_L_slept_29 x (L_L_slept_16 x n16) n29) t0 t1 x1 x2 x3 x4 x5 x7 = some o → Z p l e { frames := 11, cells := 2432, slots := 14592, locals := 199 } s m args below meth c Q 10 (c29 + 4) (s29 + 24) (IW D A s ([] ++ OW g ax ad x)) 53 [(0, .ref (ax 0)), (1, .int x1), (2, .int x2), (3, .int x3), (4, .int x4), (5, .int x5), (7, .int x7)] [.int t0, .int t1] := by
            intro t0 t1 x1 x2 x3 x4 x5 x7 h
            refine z_iadd X dL_slept_53 ?_
            refine z_istore X [(6, .int (t1 + t0)), (0, .ref (ax 0)), (1, .int x1), (2, .int x2), (3, .int x3), (4, .int x4), (5, .int x5), (7, .int x7)] dL_slept_54 (by decide) rfl ?_
            refine z_iinc X 7 [(7, .int (x7 + 1)), (6, .int (t1 + t0)), (0, .ref (ax 0)), (1, .int x1), (2, .int x2), (3, .int x3), (4, .int x4), (5, .int x5)] dL_slept_56 rfl rfl (by decide) rfl ?_
            refine z_goto X 29 dL_slept_59 (by decide) ?_
            refine z_sub (lv' := [(0, .ref (ax 0)), (1, .int x1), (2, .int x2), (3, .int x3), (4, .int x4), (5, .int x5), (6, .int (t1 + t0)), (7, .int (x7 + 1))]) [2, 3, 4, 5, 6, 7, 1, 0] rfl ?_
            exact ih29 x1 x2 x3 x4 x5 (t1 + t0) (x7 + 1) _ _ (by omega) (by omega) h
          refine z_iload X 7 dL_slept_29 rfl ?_
          refine z_iload_n X 1 dL_slept_31 rfl rfl ?_
          refine z_icmp_ge X 62 dL_slept_32 (by decide) h (fun _ h => ?_) (fun _ h => ?_)
          · refine z_widen (k := (c16 + 44)) (n := (s16 + 264)) (by omega) (by omega) ?_
            refine z_iload X 4 dL_slept_62 rfl ?_
            refine z_iload X 6 dL_slept_64 rfl ?_
            refine z_iadd X dL_slept_66 ?_
            refine z_istore X [(4, .int (x4 + x6)), (0, .ref (ax 0)), (1, .int x1), (2, .int x2), (3, .int x3), (5, .int x5), (6, .int x6), (7, .int x7)] dL_slept_67 (by decide) rfl ?_
            refine z_iload X 6 dL_slept_69 rfl ?_
            refine z_iload_n X 4 dL_slept_71 rfl rfl ?_
            refine z_icmp_le X 80 dL_slept_72 (by decide) h (fun _ h => ?_) (fun _ h => ?_)
            · refine z_iload_n X 3 dL_slept_80 rfl rfl ?_
              refine z_widen (k := (c16 + 44)) (n := (s16 + 264)) (by first | exact Nat.le_of_ble_eq_true rfl | omega) (by first | exact Nat.le_of_ble_eq_true rfl | omega) ?_
              refine z_sub (lv' := [(0, .ref (ax 0)), (1, .int x1), (3, .int x3), (4, .int (x4 + x6)), (5, .int x5), (6, .int x6)]) [1, 2, 4, 0, 5, 6] rfl ?_
              exact H81 x2 x1 x3 (x4 + x6) x5 x6 h
            · refine z_iload X 5 dL_slept_75 rfl ?_
              refine z_goto X 81 dL_slept_77 (by decide) ?_
              refine z_widen (k := (c16 + 44)) (n := (s16 + 264)) (by first | exact Nat.le_of_ble_eq_true rfl | omega) (by first | exact Nat.le_of_ble_eq_true rfl | omega) ?_
              refine z_sub (lv' := [(0, .ref (ax 0)), (1, .int x1), (3, .int x3), (4, .int (x4 + x6)), (5, .int x5), (6, .int x6)]) [1, 2, 4, 0, 5, 6] rfl ?_
              exact H81 x5 x1 x3 (x4 + x6) x5 x6 h
          · refine z_iload X 6 dL_slept_35 rfl ?_
            refine z_aload_n X 0 dL_slept_37 rfl rfl ?_
            refine z_iload X 7 dL_slept_38 rfl ?_
            refine z_iload X 5 dL_slept_40 rfl ?_
            obtain ⟨o81, e82, h⟩ := bnd_p h
            have f83 := bk_appP (X := OW g ax ad x) (X' := OW g ax ad x) (perm_of (n := 0) (E := []) (wc := []) (wr := []) [] [] rfl rfl rfl (by decide +kernel)) (perm_of (n := 0) (E := []) (wc := []) (wr := []) [] [] rfl rfl rfl (by decide +kernel)) rfl OW_fst
            refine z_gS (rest := [.int x6]) (ws' := ([] ++ OW g ax ad x)) X (KF_ok ev) (kc_of (KF_ok ev) (fun _ _ _ q => q) hK hA f83.1) hA k_L_sleeps (c_L_sleeps l hfl ev D g ad ax x7 x5 x o81 e82) ql_L_L_sleeps dL_slept_42 f83.1 f83.2 rfl rfl ⟨Nat.le_of_ble_eq_true rfl, Nat.le_of_ble_eq_true rfl, rfl, rfl, (Nat.le_trans (m := 2432) (by first | exact Nat.le_of_ble_eq_true rfl | omega) (Nat.le_of_ble_eq_true rfl)), (Nat.le_trans (m := 14592) (by first | exact Nat.le_of_ble_eq_true rfl | omega) (Nat.le_of_ble_eq_true rfl))⟩ (Nat.le_of_ble_eq_true rfl) ?_
            refine z_if_eq X 52 dL_slept_45 (by decide) h (fun _ h => ?_) (fun _ h => ?_)
            · refine z_iconst X (0 : Int32) dL_slept_52 (by decide) ?_
              refine z_widen (k := (c29 + 4)) (n := (s29 + 24)) (by first | exact Nat.le_of_ble_eq_true rfl | omega) (by first | exact Nat.le_of_ble_eq_true rfl | omega) ?_
              refine z_sub (lv' := [(0, .ref (ax 0)), (1, .int x1), (2, .int x2), (3, .int x3), (4, .int x4), (5, .int x5), (7, .int x7)]) [0, 1, 2, 3, 4, 5, 7] rfl ?_
              exact H53 (0 : Int32) x6 x1 x2 x3 x4 x5 x7 h
            · refine z_iconst X (1 : Int32) dL_slept_48 (by decide) ?_
              refine z_goto X 53 dL_slept_49 (by decide) ?_
              refine z_widen (k := (c29 + 4)) (n := (s29 + 24)) (by first | exact Nat.le_of_ble_eq_true rfl | omega) (by first | exact Nat.le_of_ble_eq_true rfl | omega) ?_
              refine z_sub (lv' := [(0, .ref (ax 0)), (1, .int x1), (2, .int x2), (3, .int x3), (4, .int x4), (5, .int x5), (7, .int x7)]) [0, 1, 2, 3, 4, 5, 7] rfl ?_
              exact H53 (1 : Int32) x6 x1 x2 x3 x4 x5 x7 h
      refine z_iload X 5 dL_slept_16 rfl ?_
      refine z_bipush X (24 : Int32) dL_slept_18 (by decide) ?_
      refine z_icmp_ge X 121 dL_slept_20 (by decide) h (fun _ h => ?_) (fun _ h => ?_)
      · refine z_widen (k := 1151) (n := 6906) (by omega) (by omega) ?_
        refine z_iconst X (0 : Int32) dL_slept_121 (by decide) ?_
        refine z_istore X [(5, .int (0 : Int32)), (0, .ref (ax 0)), (1, .int x1), (2, .int x2), (3, .int x3), (4, .int x4)] dL_slept_122 (by decide) rfl ?_
        refine z_iconst X (0 : Int32) dL_slept_124 (by decide) ?_
        refine z_istore X [(6, .int (0 : Int32)), (5, .int (0 : Int32)), (0, .ref (ax 0)), (1, .int x1), (2, .int x2), (3, .int x3), (4, .int x4)] dL_slept_125 (by decide) rfl ?_
        refine z_iconst X (0 : Int32) dL_slept_127 (by decide) ?_
        refine z_istore X [(7, .int (0 : Int32)), (6, .int (0 : Int32)), (5, .int (0 : Int32)), (0, .ref (ax 0)), (1, .int x1), (2, .int x2), (3, .int x3), (4, .int x4)] dL_slept_128 (by decide) rfl ?_
        refine z_sub (lv' := [(0, .ref (ax 0)), (1, .int x1), (2, .int x2), (3, .int x3), (4, .int x4), (5, .int (0 : Int32)), (6, .int (0 : Int32)), (7, .int (0 : Int32))]) [3, 4, 5, 6, 7, 2, 1, 0] rfl ?_
        exact H130 11 x1 x2 x3 x4 (0 : Int32) (0 : Int32) (0 : Int32) _ _ (by first | exact Nat.le_of_ble_eq_true rfl | omega) (by first | exact Nat.le_of_ble_eq_true rfl | omega) h
      · refine z_iconst X (0 : Int32) dL_slept_23 (by decide) ?_
        refine z_istore X [(6, .int (0 : Int32)), (0, .ref (ax 0)), (1, .int x1), (2, .int x2), (3, .int x3), (4, .int x4), (5, .int x5)] dL_slept_24 (by decide) rfl ?_
        refine z_iconst X (0 : Int32) dL_slept_26 (by decide) ?_
        refine z_istore X [(7, .int (0 : Int32)), (6, .int (0 : Int32)), (0, .ref (ax 0)), (1, .int x1), (2, .int x2), (3, .int x3), (4, .int x4), (5, .int x5)] dL_slept_27 (by decide) rfl ?_
        refine z_sub (lv' := [(0, .ref (ax 0)), (1, .int x1), (2, .int x2), (3, .int x3), (4, .int x4), (5, .int x5), (6, .int (0 : Int32)), (7, .int (0 : Int32))]) [2, 3, 4, 5, 6, 7, 1, 0] rfl ?_
        exact H29 11 x1 x2 x3 x4 x5 (0 : Int32) (0 : Int32) _ _ (by first | exact Nat.le_of_ble_eq_true rfl | omega) (by first | exact Nat.le_of_ble_eq_true rfl | omega) h
  refine z_aload_n X 0 dL_slept_0 rfl rfl ?_
  refine z_iconst X (2 : Int32) dL_slept_1 (by decide) ?_
  obtain ⟨o1, e2, h⟩ := bnd_p h
  obtain ⟨hz3, h⟩ := grd_p h
  obtain ⟨wco1, wdo1, hNo1, bo1, do1, xo1⟩ := nx_account l hfl ev.ak ev.av ev.aS D g ad ax (2 : Int32) x o1.1 o1.2.1 o1.2.2 e2
  rw [xo1] at do1
  have fo1 := bk_E (E := []) bo1 do1
  refine z_exV (rest := []) (q0 := 0) (ci := 11) (ws' := ([] ++ OW g ax ad x)) X hK.1 hA k_X11_account hNo1 ql_L_X11_account dL_slept_2 fo1.1 fo1.2 rfl rfl rfl rfl rfl ⟨Nat.le_of_ble_eq_true rfl, Nat.le_of_ble_eq_true rfl, rfl, rfl, (Nat.le_trans (m := 2432) (by first | exact Nat.le_of_ble_eq_true rfl | omega) (Nat.le_of_ble_eq_true rfl)), (Nat.le_trans (m := 14592) (by first | exact Nat.le_of_ble_eq_true rfl | omega) (Nat.le_of_ble_eq_true rfl))⟩ (Nat.le_of_ble_eq_true rfl) (fun _ => ?_) (fun q => absurd hz3 q)
  refine z_istore_n X [(1, .int o1.2.1), (0, .ref (ax 0))] dL_slept_5 rfl (by decide) rfl ?_
  refine z_iconst X ((-1) : Int32) dL_slept_6 (by decide) ?_
  refine z_istore_n X [(2, .int ((-1) : Int32)), (1, .int o1.2.1), (0, .ref (ax 0))] dL_slept_7 rfl (by decide) rfl ?_
  refine z_iconst X (0 : Int32) dL_slept_8 (by decide) ?_
  refine z_istore_n X [(3, .int (0 : Int32)), (2, .int ((-1) : Int32)), (1, .int o1.2.1), (0, .ref (ax 0))] dL_slept_9 rfl (by decide) rfl ?_
  refine z_iconst X (0 : Int32) dL_slept_10 (by decide) ?_
  refine z_istore X [(4, .int (0 : Int32)), (3, .int (0 : Int32)), (2, .int ((-1) : Int32)), (1, .int o1.2.1), (0, .ref (ax 0))] dL_slept_11 (by decide) rfl ?_
  refine z_iconst X (0 : Int32) dL_slept_13 (by decide) ?_
  refine z_istore X [(5, .int (0 : Int32)), (4, .int (0 : Int32)), (3, .int (0 : Int32)), (2, .int ((-1) : Int32)), (1, .int o1.2.1), (0, .ref (ax 0))] dL_slept_14 (by decide) rfl ?_
  refine z_sub (lv' := [(0, .ref (ax 0)), (1, .int o1.2.1), (2, .int ((-1) : Int32)), (3, .int (0 : Int32)), (4, .int (0 : Int32)), (5, .int (0 : Int32))]) [5, 4, 3, 2, 1, 0] rfl ?_
  exact H16 25 o1.2.1 ((-1) : Int32) (0 : Int32) (0 : Int32) (0 : Int32) _ _ (by first | exact Nat.le_of_ble_eq_true rfl | omega) (by first | exact Nat.le_of_ble_eq_true rfl | omega) h
