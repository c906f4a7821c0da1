def J_L_looked_334 (a_bl : Nat → Int32) (t0 : Int32) (t1 : Int32) (x : XVal) : Option (Int32 × XVal) :=
  brn (t1 = t0) (bnd (G_isWell x) (fun o31 => brn (o31.2.1 = 0) (none) (some ((1 : Int32), o31.2.2)))) (none)

def J_L_looked_272 (a_bl : Nat → Int32) (t0 : Int32) (t1 : Int32) (x2 : Int32) (x4 : Int32) (x5 : Int32) (x : XVal) : Option (Int32 × XVal) :=
  brn (t1 = t0) (bnd (F_L_fix x5 x) (fun o16 => brn (o16 = ((-13) : Int32)) (bnd (F_L_fix ((-1) : Int32) x) (fun o19 => brn (o19 = ((-13) : Int32)) (bnd (F_L_fits (64 : Int32) x) (fun o22 => brn (o22 = ((-12) : Int32)) (bnd (F_L_postOf x2 (0 : Int32) x) (fun o25 => brn (o25 = ((-11) : Int32)) (bnd (G_account (9 : Int32) x) (fun o28 => grd (o28.1 = 0) (brn (o28.2.1 ≤ 0) (J_L_looked_334 a_bl (0 : Int32) x4 x) (J_L_looked_334 a_bl (1 : Int32) x4 x)))) (none))) (none))) (none))) (none))) (none)

def J_L_looked_252 (a_bl : Nat → Int32) (t0 : Int32) (t1 : Int32) (x2 : Int32) (x4 : Int32) (x5 : Int32) (x : XVal) : Option (Int32 × XVal) :=
  brn (t1 = t0) (bnd (F_L_fitting (1 : Int32) x) (fun o13 => brn (x4 = 0) (J_L_looked_272 a_bl ((-13) : Int32) o13 x2 x4 x5 x) (J_L_looked_272 a_bl x5 o13 x2 x4 x5 x))) (none)

def J_L_looked_235 (a_bl : Nat → Int32) (x2 : Int32) (x4 : Int32) (x5 : Int32) (x : XVal) : Option (Int32 × XVal) :=
  bnd (F_L_fitting (0 : Int32) x) (fun o10 => brn (x4 = 0) (J_L_looked_252 a_bl ((-13) : Int32) o10 x2 x4 x5 x) (J_L_looked_252 a_bl x5 o10 x2 x4 x5 x))

def J_L_looked_208 (a_bl : Nat → Int32) (r63 : Int32 → Int32 → Int32 → Int32 → Int32 → (XVal) → Option (Int32 × XVal)) (t0 : Int32) (t1 : Int32) (x2 : Int32) (x3 : Int32) (x4 : Int32) (x6 : Int32) (x : XVal) : Option (Int32 × XVal) :=
  r63 x2 x3 x4 (t1 + t0) (x6 + 1) x

def J_L_looked_196 (a_bl : Nat → Int32) (r63 : Int32 → Int32 → Int32 → Int32 → Int32 → (XVal) → Option (Int32 × XVal)) (x2 : Int32) (x3 : Int32) (x4 : Int32) (x5 : Int32) (x6 : Int32) (x7 : Int32) (x : XVal) : Option (Int32 × XVal) :=
  brn (x7 = 0) (J_L_looked_208 a_bl (r63) (0 : Int32) x5 x2 x3 x4 x6 x) (J_L_looked_208 a_bl (r63) (1 : Int32) x5 x2 x3 x4 x6 x)

def J_L_looked_170 (a_bl : Nat → Int32) (r63 : Int32 → Int32 → Int32 → Int32 → Int32 → (XVal) → Option (Int32 × XVal)) (t0 : Int32) (t1 : Int32) (x2 : Int32) (x3 : Int32) (x4 : Int32) (x5 : Int32) (x6 : Int32) (x7 : Int32) (x : XVal) : Option (Int32 × XVal) :=
  brn (t1 = t0) (brn (x7 = 0) (J_L_looked_196 a_bl (r63) x2 x3 x4 x5 x6 x7 x) (brn (x4 = 0) (J_L_looked_196 a_bl (r63) x2 x3 x4 x5 x6 x7 x) (bnd (F_L_fix x5 x) (fun o36 => brn (o36 = x6) (J_L_looked_196 a_bl (r63) x2 x3 x4 x5 x6 x7 x) (none))))) (none)

def J_L_looked_136 (a_bl : Nat → Int32) (r63 : Int32 → Int32 → Int32 → Int32 → Int32 → (XVal) → Option (Int32 × XVal)) (r87 : Int32 → Int32 → Int32 → Int32 → Int32 → Int32 → Int32 → (XVal) → Option (Int32 × XVal)) (t0 : Int32) (x2 : Int32) (x3 : Int32) (x4 : Int32) (x5 : Int32) (x6 : Int32) (x8 : Int32) (x : XVal) : Option (Int32 × XVal) :=
  r87 x2 x3 x4 x5 x6 t0 (x8 + 1) x

def J_L_looked_135 (a_bl : Nat → Int32) (r63 : Int32 → Int32 → Int32 → Int32 → Int32 → (XVal) → Option (Int32 × XVal)) (r87 : Int32 → Int32 → Int32 → Int32 → Int32 → Int32 → Int32 → (XVal) → Option (Int32 × XVal)) (x2 : Int32) (x3 : Int32) (x4 : Int32) (x5 : Int32) (x6 : Int32) (x8 : Int32) (x : XVal) : Option (Int32 × XVal) :=
  J_L_looked_136 a_bl (r63) (r87) (0 : Int32) x2 x3 x4 x5 x6 x8 x

def J_L_looked_131 (a_bl : Nat → Int32) (r63 : Int32 → Int32 → Int32 → Int32 → Int32 → (XVal) → Option (Int32 × XVal)) (r87 : Int32 → Int32 → Int32 → Int32 → Int32 → Int32 → Int32 → (XVal) → Option (Int32 × XVal)) (x2 : Int32) (x3 : Int32) (x4 : Int32) (x5 : Int32) (x6 : Int32) (x8 : Int32) (x : XVal) : Option (Int32 × XVal) :=
  J_L_looked_136 a_bl (r63) (r87) (1 : Int32) x2 x3 x4 x5 x6 x8 x

def L_L_looked_87 (a_bl : Nat → Int32) (r63 : Int32 → Int32 → Int32 → Int32 → Int32 → (XVal) → Option (Int32 × XVal)) : Nat → Int32 → Int32 → Int32 → Int32 → Int32 → Int32 → Int32 → (XVal) → Option (Int32 × XVal)
  | 0, _, _, _, _, _, _, _, _ => none
  | _n + 1, x2, x3, x4, x5, x6, x7, x8, x =>
    brn (x2 ≤ x8) (bnd (F_L_fits x6 x) (fun o33 => brn (x4 = 0) (J_L_looked_170 a_bl (r63) ((-13) : Int32) o33 x2 x3 x4 x5 x6 x7 x) (brn (x7 = 0) (J_L_looked_170 a_bl (r63) (0 : Int32) o33 x2 x3 x4 x5 x6 x7 x) (J_L_looked_170 a_bl (r63) (1 : Int32) o33 x2 x3 x4 x5 x6 x7 x)))) (bnd (F_L_postOf x8 (1 : Int32) x) (fun o39 => brn (x7 = 0) (J_L_looked_135 a_bl (r63) (L_L_looked_87 a_bl r63 _n) x2 x3 x4 x5 x6 x8 x) (brn (o39 = ((-13) : Int32)) (J_L_looked_131 a_bl (r63) (L_L_looked_87 a_bl r63 _n) x2 x3 x4 x5 x6 x8 x) (bnd (F_L_postOf x8 (0 : Int32) x) (fun o42 => bnd (F_L_far x6 o42) (fun o45 => brn (o45 = o39) (J_L_looked_131 a_bl (r63) (L_L_looked_87 a_bl r63 _n) x2 x3 x4 x5 x6 x8 x) (J_L_looked_135 a_bl (r63) (L_L_looked_87 a_bl r63 _n) x2 x3 x4 x5 x6 x8 x)))))))

def J_L_looked_82 (a_bl : Nat → Int32) (r63 : Int32 → Int32 → Int32 → Int32 → Int32 → (XVal) → Option (Int32 × XVal)) (t0 : Int32) (x2 : Int32) (x3 : Int32) (x4 : Int32) (x5 : Int32) (x6 : Int32) (x : XVal) : Option (Int32 × XVal) :=
  L_L_looked_87 a_bl (r63) 5 x2 x3 x4 x5 x6 t0 (0 : Int32) x

def L_L_looked_63 (a_bl : Nat → Int32) : Nat → Int32 → Int32 → Int32 → Int32 → Int32 → (XVal) → Option (Int32 × XVal)
  | 0, _, _, _, _, _, _ => none
  | _n + 1, x2, x3, x4, x5, x6, x =>
    brn ((64 : Int32) ≤ x6) (bnd (G_account (5 : Int32) x) (fun o7 => grd (o7.1 = 0) (brn (o7.2.1 = x3) (brn (x4 = 0) (brn (x3 = 0) (J_L_looked_235 a_bl x2 x4 x5 x) (none)) (J_L_looked_235 a_bl x2 x4 x5 x)) (none)))) (grd (inb x6 64) (brn ((a_bl x6.toNatClampNeg) = 0) (J_L_looked_82 a_bl (L_L_looked_63 a_bl _n) (1 : Int32) x2 x3 x4 x5 x6 x) (J_L_looked_82 a_bl (L_L_looked_63 a_bl _n) (0 : Int32) x2 x3 x4 x5 x6 x)))

def J_L_looked_55 (a_bl : Nat → Int32) (t0 : Int32) (x2 : Int32) (x3 : Int32) (x : XVal) : Option (Int32 × XVal) :=
  L_L_looked_63 a_bl 65 x2 x3 t0 (0 : Int32) (0 : Int32) x

def J_L_looked_33 (a_bl : Nat → Int32) (r11 : Int32 → Int32 → Int32 → (XVal) → Option (Int32 × XVal)) (t0 : Int32) (t1 : Int32) (x2 : Int32) (x4 : Int32) (x : XVal) : Option (Int32 × XVal) :=
  r11 x2 (t1 + t0) (x4 + 1) x

def L_L_looked_11 (a_bl : Nat → Int32) : Nat → Int32 → Int32 → Int32 → (XVal) → Option (Int32 × XVal)
  | 0, _, _, _, _ => none
  | _n + 1, x2, x3, x4, x =>
    brn (x2 ≤ x4) (bnd (G_account (10 : Int32) x) (fun o4 => grd (o4.1 = 0) (brn (o4.2.1 < 0) (J_L_looked_55 a_bl (0 : Int32) x2 x3 x) (J_L_looked_55 a_bl (1 : Int32) x2 x3 x)))) (bnd (F_L_postOf x4 (1 : Int32) x) (fun o48 => brn (o48 < 0) (J_L_looked_33 a_bl (L_L_looked_11 a_bl _n) (0 : Int32) x3 x2 x4 x) (J_L_looked_33 a_bl (L_L_looked_11 a_bl _n) (1 : Int32) x3 x2 x4 x)))

def F_L_looked (a_bl : Nat → Int32) (x : XVal) : Option (Int32 × XVal) :=
  bnd (G_account (4 : Int32) x) (fun o1 => grd (o1.1 = 0) (L_L_looked_11 a_bl 5 o1.2.1 (0 : Int32) (0 : Int32) x))

theorem dL_looked_0 : decode cL_looked 0 = .ok (.aload_n 0, 1) := by decide +kernel
theorem dL_looked_1 : decode cL_looked 1 = .ok (.iconst 4, 1) := by decide +kernel
theorem dL_looked_2 : decode cL_looked 2 = .ok (.invokevirtual 162, 3) := by decide +kernel
theorem dL_looked_5 : decode cL_looked 5 = .ok (.istore_n 2, 1) := by decide +kernel
theorem dL_looked_6 : decode cL_looked 6 = .ok (.iconst 0, 1) := by decide +kernel
theorem dL_looked_7 : decode cL_looked 7 = .ok (.istore_n 3, 1) := by decide +kernel
theorem dL_looked_8 : decode cL_looked 8 = .ok (.iconst 0, 1) := by decide +kernel
theorem dL_looked_9 : decode cL_looked 9 = .ok (.istore 4, 2) := by decide +kernel
theorem dL_looked_11 : decode cL_looked 11 = .ok (.iload 4, 2) := by decide +kernel
theorem dL_looked_13 : decode cL_looked 13 = .ok (.iload_n 2, 1) := by decide +kernel
theorem dL_looked_14 : decode cL_looked 14 = .ok (.if_icmp .ge 27, 3) := by decide +kernel
theorem dL_looked_17 : decode cL_looked 17 = .ok (.iload_n 3, 1) := by decide +kernel
theorem dL_looked_18 : decode cL_looked 18 = .ok (.aload_n 0, 1) := by decide +kernel
theorem dL_looked_19 : decode cL_looked 19 = .ok (.iload 4, 2) := by decide +kernel
theorem dL_looked_21 : decode cL_looked 21 = .ok (.iconst 1, 1) := by decide +kernel
theorem dL_looked_22 : decode cL_looked 22 = .ok (.invokestatic 244, 3) := by decide +kernel
theorem dL_looked_25 : decode cL_looked 25 = .ok (.ifCond .lt 7, 3) := by decide +kernel
theorem dL_looked_28 : decode cL_looked 28 = .ok (.iconst 1, 1) := by decide +kernel
theorem dL_looked_29 : decode cL_looked 29 = .ok (.goto 4, 3) := by decide +kernel
theorem dL_looked_32 : decode cL_looked 32 = .ok (.iconst 0, 1) := by decide +kernel
theorem dL_looked_33 : decode cL_looked 33 = .ok (.iadd, 1) := by decide +kernel
theorem dL_looked_34 : decode cL_looked 34 = .ok (.istore_n 3, 1) := by decide +kernel
theorem dL_looked_35 : decode cL_looked 35 = .ok (.iinc 4 1, 3) := by decide +kernel
theorem dL_looked_38 : decode cL_looked 38 = .ok (.goto (-27), 3) := by decide +kernel
theorem dL_looked_41 : decode cL_looked 41 = .ok (.aload_n 0, 1) := by decide +kernel
theorem dL_looked_42 : decode cL_looked 42 = .ok (.bipush 10, 2) := by decide +kernel
theorem dL_looked_44 : decode cL_looked 44 = .ok (.invokevirtual 162, 3) := by decide +kernel
theorem dL_looked_47 : decode cL_looked 47 = .ok (.ifCond .lt 7, 3) := by decide +kernel
theorem dL_looked_50 : decode cL_looked 50 = .ok (.iconst 1, 1) := by decide +kernel
theorem dL_looked_51 : decode cL_looked 51 = .ok (.goto 4, 3) := by decide +kernel
theorem dL_looked_54 : decode cL_looked 54 = .ok (.iconst 0, 1) := by decide +kernel
theorem dL_looked_55 : decode cL_looked 55 = .ok (.istore 4, 2) := by decide +kernel
theorem dL_looked_57 : decode cL_looked 57 = .ok (.iconst 0, 1) := by decide +kernel
theorem dL_looked_58 : decode cL_looked 58 = .ok (.istore 5, 2) := by decide +kernel
theorem dL_looked_60 : decode cL_looked 60 = .ok (.iconst 0, 1) := by decide +kernel
theorem dL_looked_61 : decode cL_looked 61 = .ok (.istore 6, 2) := by decide +kernel
theorem dL_looked_63 : decode cL_looked 63 = .ok (.iload 6, 2) := by decide +kernel
theorem dL_looked_65 : decode cL_looked 65 = .ok (.bipush 64, 2) := by decide +kernel
theorem dL_looked_67 : decode cL_looked 67 = .ok (.if_icmp .ge 150, 3) := by decide +kernel
theorem dL_looked_70 : decode cL_looked 70 = .ok (.aload_n 1, 1) := by decide +kernel
theorem dL_looked_71 : decode cL_looked 71 = .ok (.iload 6, 2) := by decide +kernel
theorem dL_looked_73 : decode cL_looked 73 = .ok (.baload, 1) := by decide +kernel
theorem dL_looked_74 : decode cL_looked 74 = .ok (.ifCond .ne 7, 3) := by decide +kernel
theorem dL_looked_77 : decode cL_looked 77 = .ok (.iconst 1, 1) := by decide +kernel
theorem dL_looked_78 : decode cL_looked 78 = .ok (.goto 4, 3) := by decide +kernel
theorem dL_looked_81 : decode cL_looked 81 = .ok (.iconst 0, 1) := by decide +kernel
theorem dL_looked_82 : decode cL_looked 82 = .ok (.istore 7, 2) := by decide +kernel
theorem dL_looked_84 : decode cL_looked 84 = .ok (.iconst 0, 1) := by decide +kernel
theorem dL_looked_85 : decode cL_looked 85 = .ok (.istore 8, 2) := by decide +kernel
theorem dL_looked_87 : decode cL_looked 87 = .ok (.iload 8, 2) := by decide +kernel
theorem dL_looked_89 : decode cL_looked 89 = .ok (.iload_n 2, 1) := by decide +kernel
theorem dL_looked_90 : decode cL_looked 90 = .ok (.if_icmp .ge 54, 3) := by decide +kernel
theorem dL_looked_93 : decode cL_looked 93 = .ok (.aload_n 0, 1) := by decide +kernel
theorem dL_looked_94 : decode cL_looked 94 = .ok (.iload 8, 2) := by decide +kernel
theorem dL_looked_96 : decode cL_looked 96 = .ok (.iconst 1, 1) := by decide +kernel
theorem dL_looked_97 : decode cL_looked 97 = .ok (.invokestatic 244, 3) := by decide +kernel
theorem dL_looked_100 : decode cL_looked 100 = .ok (.istore 9, 2) := by decide +kernel
theorem dL_looked_102 : decode cL_looked 102 = .ok (.iload 7, 2) := by decide +kernel
theorem dL_looked_104 : decode cL_looked 104 = .ok (.ifCond .eq 31, 3) := by decide +kernel
theorem dL_looked_107 : decode cL_looked 107 = .ok (.iload 9, 2) := by decide +kernel
theorem dL_looked_109 : decode cL_looked 109 = .ok (.bipush (-13), 2) := by decide +kernel
theorem dL_looked_111 : decode cL_looked 111 = .ok (.if_icmp .eq 20, 3) := by decide +kernel
theorem dL_looked_114 : decode cL_looked 114 = .ok (.iload 6, 2) := by decide +kernel
theorem dL_looked_116 : decode cL_looked 116 = .ok (.aload_n 0, 1) := by decide +kernel
theorem dL_looked_117 : decode cL_looked 117 = .ok (.iload 8, 2) := by decide +kernel
theorem dL_looked_119 : decode cL_looked 119 = .ok (.iconst 0, 1) := by decide +kernel
theorem dL_looked_120 : decode cL_looked 120 = .ok (.invokestatic 244, 3) := by decide +kernel
theorem dL_looked_123 : decode cL_looked 123 = .ok (.invokestatic 231, 3) := by decide +kernel
theorem dL_looked_126 : decode cL_looked 126 = .ok (.iload 9, 2) := by decide +kernel
theorem dL_looked_128 : decode cL_looked 128 = .ok (.if_icmp .ne 7, 3) := by decide +kernel
theorem dL_looked_131 : decode cL_looked 131 = .ok (.iconst 1, 1) := by decide +kernel
theorem dL_looked_132 : decode cL_looked 132 = .ok (.goto 4, 3) := by decide +kernel
theorem dL_looked_135 : decode cL_looked 135 = .ok (.iconst 0, 1) := by decide +kernel
theorem dL_looked_136 : decode cL_looked 136 = .ok (.istore 7, 2) := by decide +kernel
theorem dL_looked_138 : decode cL_looked 138 = .ok (.iinc 8 1, 3) := by decide +kernel
theorem dL_looked_141 : decode cL_looked 141 = .ok (.goto (-54), 3) := by decide +kernel
theorem dL_looked_144 : decode cL_looked 144 = .ok (.aload_n 0, 1) := by decide +kernel
theorem dL_looked_145 : decode cL_looked 145 = .ok (.iload 6, 2) := by decide +kernel
theorem dL_looked_147 : decode cL_looked 147 = .ok (.invokestatic 246, 3) := by decide +kernel
theorem dL_looked_150 : decode cL_looked 150 = .ok (.iload 4, 2) := by decide +kernel
theorem dL_looked_152 : decode cL_looked 152 = .ok (.ifCond .ne 8, 3) := by decide +kernel
theorem dL_looked_155 : decode cL_looked 155 = .ok (.bipush (-13), 2) := by decide +kernel
theorem dL_looked_157 : decode cL_looked 157 = .ok (.goto 13, 3) := by decide +kernel
theorem dL_looked_160 : decode cL_looked 160 = .ok (.iload 7, 2) := by decide +kernel
theorem dL_looked_162 : decode cL_looked 162 = .ok (.ifCond .eq 7, 3) := by decide +kernel
theorem dL_looked_165 : decode cL_looked 165 = .ok (.iconst 1, 1) := by decide +kernel
theorem dL_looked_166 : decode cL_looked 166 = .ok (.goto 4, 3) := by decide +kernel
theorem dL_looked_169 : decode cL_looked 169 = .ok (.iconst 0, 1) := by decide +kernel
theorem dL_looked_170 : decode cL_looked 170 = .ok (.if_icmp .ne 24, 3) := by decide +kernel
theorem dL_looked_173 : decode cL_looked 173 = .ok (.iload 7, 2) := by decide +kernel
theorem dL_looked_175 : decode cL_looked 175 = .ok (.ifCond .eq 21, 3) := by decide +kernel
theorem dL_looked_178 : decode cL_looked 178 = .ok (.iload 4, 2) := by decide +kernel
theorem dL_looked_180 : decode cL_looked 180 = .ok (.ifCond .eq 16, 3) := by decide +kernel
theorem dL_looked_183 : decode cL_looked 183 = .ok (.aload_n 0, 1) := by decide +kernel
theorem dL_looked_184 : decode cL_looked 184 = .ok (.iload 5, 2) := by decide +kernel
theorem dL_looked_186 : decode cL_looked 186 = .ok (.invokestatic 248, 3) := by decide +kernel
theorem dL_looked_189 : decode cL_looked 189 = .ok (.iload 6, 2) := by decide +kernel
theorem dL_looked_191 : decode cL_looked 191 = .ok (.if_icmp .eq 5, 3) := by decide +kernel
theorem dL_looked_194 : decode cL_looked 194 = .ok (.iconst 0, 1) := by decide +kernel
theorem dL_looked_195 : decode cL_looked 195 = .ok (.ireturn, 1) := by decide +kernel
theorem dL_looked_196 : decode cL_looked 196 = .ok (.iload 5, 2) := by decide +kernel
theorem dL_looked_198 : decode cL_looked 198 = .ok (.iload 7, 2) := by decide +kernel
theorem dL_looked_200 : decode cL_looked 200 = .ok (.ifCond .eq 7, 3) := by decide +kernel
theorem dL_looked_203 : decode cL_looked 203 = .ok (.iconst 1, 1) := by decide +kernel
theorem dL_looked_204 : decode cL_looked 204 = .ok (.goto 4, 3) := by decide +kernel
theorem dL_looked_207 : decode cL_looked 207 = .ok (.iconst 0, 1) := by decide +kernel
theorem dL_looked_208 : decode cL_looked 208 = .ok (.iadd, 1) := by decide +kernel
theorem dL_looked_209 : decode cL_looked 209 = .ok (.istore 5, 2) := by decide +kernel
theorem dL_looked_211 : decode cL_looked 211 = .ok (.iinc 6 1, 3) := by decide +kernel
theorem dL_looked_214 : decode cL_looked 214 = .ok (.goto (-151), 3) := by decide +kernel
theorem dL_looked_217 : decode cL_looked 217 = .ok (.aload_n 0, 1) := by decide +kernel
theorem dL_looked_218 : decode cL_looked 218 = .ok (.iconst 5, 1) := by decide +kernel
theorem dL_looked_219 : decode cL_looked 219 = .ok (.invokevirtual 162, 3) := by decide +kernel
theorem dL_looked_222 : decode cL_looked 222 = .ok (.iload_n 3, 1) := by decide +kernel
theorem dL_looked_223 : decode cL_looked 223 = .ok (.if_icmp .ne 125, 3) := by decide +kernel
theorem dL_looked_226 : decode cL_looked 226 = .ok (.iload 4, 2) := by decide +kernel
theorem dL_looked_228 : decode cL_looked 228 = .ok (.ifCond .ne 7, 3) := by decide +kernel
theorem dL_looked_231 : decode cL_looked 231 = .ok (.iload_n 3, 1) := by decide +kernel
theorem dL_looked_232 : decode cL_looked 232 = .ok (.ifCond .ne 116, 3) := by decide +kernel
theorem dL_looked_235 : decode cL_looked 235 = .ok (.aload_n 0, 1) := by decide +kernel
theorem dL_looked_236 : decode cL_looked 236 = .ok (.iconst 0, 1) := by decide +kernel
theorem dL_looked_237 : decode cL_looked 237 = .ok (.invokestatic 250, 3) := by decide +kernel
theorem dL_looked_240 : decode cL_looked 240 = .ok (.iload 4, 2) := by decide +kernel
theorem dL_looked_242 : decode cL_looked 242 = .ok (.ifCond .eq 8, 3) := by decide +kernel
theorem dL_looked_245 : decode cL_looked 245 = .ok (.iload 5, 2) := by decide +kernel
theorem dL_looked_247 : decode cL_looked 247 = .ok (.goto 5, 3) := by decide +kernel
theorem dL_looked_250 : decode cL_looked 250 = .ok (.bipush (-13), 2) := by decide +kernel
theorem dL_looked_252 : decode cL_looked 252 = .ok (.if_icmp .ne 96, 3) := by decide +kernel
theorem dL_looked_255 : decode cL_looked 255 = .ok (.aload_n 0, 1) := by decide +kernel
theorem dL_looked_256 : decode cL_looked 256 = .ok (.iconst 1, 1) := by decide +kernel
theorem dL_looked_257 : decode cL_looked 257 = .ok (.invokestatic 250, 3) := by decide +kernel
theorem dL_looked_260 : decode cL_looked 260 = .ok (.iload 4, 2) := by decide +kernel
theorem dL_looked_262 : decode cL_looked 262 = .ok (.ifCond .eq 8, 3) := by decide +kernel
theorem dL_looked_265 : decode cL_looked 265 = .ok (.iload 5, 2) := by decide +kernel
theorem dL_looked_267 : decode cL_looked 267 = .ok (.goto 5, 3) := by decide +kernel
theorem dL_looked_270 : decode cL_looked 270 = .ok (.bipush (-13), 2) := by decide +kernel
theorem dL_looked_272 : decode cL_looked 272 = .ok (.if_icmp .ne 76, 3) := by decide +kernel
theorem dL_looked_275 : decode cL_looked 275 = .ok (.aload_n 0, 1) := by decide +kernel
theorem dL_looked_276 : decode cL_looked 276 = .ok (.iload 5, 2) := by decide +kernel
theorem dL_looked_278 : decode cL_looked 278 = .ok (.invokestatic 248, 3) := by decide +kernel
theorem dL_looked_281 : decode cL_looked 281 = .ok (.bipush (-13), 2) := by decide +kernel
theorem dL_looked_283 : decode cL_looked 283 = .ok (.if_icmp .ne 65, 3) := by decide +kernel
theorem dL_looked_286 : decode cL_looked 286 = .ok (.aload_n 0, 1) := by decide +kernel
theorem dL_looked_287 : decode cL_looked 287 = .ok (.iconst (-1), 1) := by decide +kernel
theorem dL_looked_288 : decode cL_looked 288 = .ok (.invokestatic 248, 3) := by decide +kernel
theorem dL_looked_291 : decode cL_looked 291 = .ok (.bipush (-13), 2) := by decide +kernel
theorem dL_looked_293 : decode cL_looked 293 = .ok (.if_icmp .ne 55, 3) := by decide +kernel
theorem dL_looked_296 : decode cL_looked 296 = .ok (.aload_n 0, 1) := by decide +kernel
theorem dL_looked_297 : decode cL_looked 297 = .ok (.bipush 64, 2) := by decide +kernel
theorem dL_looked_299 : decode cL_looked 299 = .ok (.invokestatic 246, 3) := by decide +kernel
theorem dL_looked_302 : decode cL_looked 302 = .ok (.bipush (-12), 2) := by decide +kernel
theorem dL_looked_304 : decode cL_looked 304 = .ok (.if_icmp .ne 44, 3) := by decide +kernel
theorem dL_looked_307 : decode cL_looked 307 = .ok (.aload_n 0, 1) := by decide +kernel
theorem dL_looked_308 : decode cL_looked 308 = .ok (.iload_n 2, 1) := by decide +kernel
theorem dL_looked_309 : decode cL_looked 309 = .ok (.iconst 0, 1) := by decide +kernel
theorem dL_looked_310 : decode cL_looked 310 = .ok (.invokestatic 244, 3) := by decide +kernel
theorem dL_looked_313 : decode cL_looked 313 = .ok (.bipush (-11), 2) := by decide +kernel
theorem dL_looked_315 : decode cL_looked 315 = .ok (.if_icmp .ne 33, 3) := by decide +kernel
theorem dL_looked_318 : decode cL_looked 318 = .ok (.iload 4, 2) := by decide +kernel
theorem dL_looked_320 : decode cL_looked 320 = .ok (.aload_n 0, 1) := by decide +kernel
theorem dL_looked_321 : decode cL_looked 321 = .ok (.bipush 9, 2) := by decide +kernel
theorem dL_looked_323 : decode cL_looked 323 = .ok (.invokevirtual 162, 3) := by decide +kernel
theorem dL_looked_326 : decode cL_looked 326 = .ok (.ifCond .le 7, 3) := by decide +kernel
theorem dL_looked_329 : decode cL_looked 329 = .ok (.iconst 1, 1) := by decide +kernel
theorem dL_looked_330 : decode cL_looked 330 = .ok (.goto 4, 3) := by decide +kernel
theorem dL_looked_333 : decode cL_looked 333 = .ok (.iconst 0, 1) := by decide +kernel
theorem dL_looked_334 : decode cL_looked 334 = .ok (.if_icmp .ne 14, 3) := by decide +kernel
theorem dL_looked_337 : decode cL_looked 337 = .ok (.aload_n 0, 1) := by decide +kernel
theorem dL_looked_338 : decode cL_looked 338 = .ok (.invokevirtual 252, 3) := by decide +kernel
theorem dL_looked_341 : decode cL_looked 341 = .ok (.ifCond .eq 7, 3) := by decide +kernel
theorem dL_looked_344 : decode cL_looked 344 = .ok (.iconst 1, 1) := by decide +kernel
theorem dL_looked_345 : decode cL_looked 345 = .ok (.goto 4, 3) := by decide +kernel
theorem dL_looked_348 : decode cL_looked 348 = .ok (.iconst 0, 1) := by decide +kernel
theorem dL_looked_349 : decode cL_looked 349 = .ok (.ireturn, 1) := by decide +kernel
theorem k_L_looked : cardS yL_looked (Cond.code yL_looked cL_looked 10 (some .boolean)) 2 := ⟨qs_L_looked, qc_L_looked, qn_L, by decide +kernel, by decide +kernel, by decide +kernel⟩
set_option maxHeartbeats 4000000 in
set_option maxRecDepth 100000 in
theorem c_L_looked (l : Launch) (hfl : l.stackTraces = false) (ev : LEv) (D : va_G) (g : Nat → ClassId) (ad : Nat → Nat → Nat) (ax : Nat → Nat) (q_bl : Nat) (x : XVal) (a_bl : Nat → Int32) (o : Int32 × XVal) (h : F_L_looked a_bl x = some o) : MG l yL_looked (Cond.code yL_looked cL_looked 10 (some .boolean)) { frames := 10, cells := 2240, slots := 13440, locals := 195 } (KF ev) D g [.ref (ax 0), .ref q_bl] ([(q_bl, .inl (g 3, 64, .inl a_bl))] ++ OW g ax ad x) (some (.int o.1)) ([(q_bl, .inl (g 3, 64, .inl a_bl))] ++ OW g ax ad o.2) 2240 13440 := by
  refine z_g_start (by decide) (Nat.le_of_ble_eq_true rfl) ?_
  intro p e s m args below meth c Q A X hr hK hA hQ
  refine z_lv (lv' := [(0, .ref (ax 0)), (1, .ref q_bl)]) rfl ?_
  have H334 : ∀ (t0 : Int32) (t1 : Int32) (x : XVal), J_L_looked_334 a_bl t0 t1 x = some o → Z p l e { frames := 10, cells := 2240, slots := 13440, locals := 195 } s m args below meth c Q 10 2240 13440 (IW D A s ([(q_bl, .inl (g 3, 64, .inl a_bl))] ++ OW g ax ad x)) 334 [(0, .ref (ax 0))] [.int t0, .int t1] := by
    intro t0 t1 x h
    refine z_icmp_ne X 348 dL_looked_334 (by decide) h (fun _ h => ?_) (fun _ h => ?_)
    · refine z_aload_n X 0 dL_looked_337 rfl rfl ?_
      obtain ⟨o31, e32, h⟩ := bnd_p h
      obtain ⟨wco31, wdo31, hNo31, bo31, do31, _⟩ := nx_isWell l D g ad ax x o31.1 o31.2.1 o31.2.2 e32
      have fo31 := bk_E (E := [(q_bl, .inl (g 3, 64, .inl a_bl))]) bo31 do31
      refine z_wgV (rest := []) (q0 := 1) (ci := 11) (ws' := ([(q_bl, .inl (g 3, 64, .inl a_bl))] ++ OW g ax ad o31.2.2)) X k_X11_isWell hNo31 ql_L_X11_isWell dL_looked_338 fo31.1 fo31.2 rfl rfl rfl rfl rfl ⟨Nat.le_of_ble_eq_true rfl, Nat.le_of_ble_eq_true rfl, rfl, rfl, (Nat.le_trans (m := 2240) (by first | exact Nat.le_of_ble_eq_true rfl | omega) (Nat.le_of_ble_eq_true rfl)), (Nat.le_trans (m := 13440) (by first | exact Nat.le_of_ble_eq_true rfl | omega) (Nat.le_of_ble_eq_true rfl))⟩ (Nat.le_of_ble_eq_true rfl) ?_
      refine z_if_eq X 348 dL_looked_341 (by decide) h (fun _ h => ?_) (fun _ h => ?_)
      · cases h
      · refine z_iconst X (1 : Int32) dL_looked_344 (by decide) ?_
        refine z_goto X 349 dL_looked_345 (by decide) ?_
        cases h
        exact z_lzret X hQ (by first | exact Nat.le_of_ble_eq_true rfl | omega) (by first | exact Nat.le_of_ble_eq_true rfl | omega) hr dL_looked_349 rfl
    · cases h
  have H272 : ∀ (t0 : Int32) (t1 : Int32) (x2 : Int32) (x4 : Int32) (x5 : Int32) (x : XVal), J_L_looked_272 a_bl t0 t1 x2 x4 x5 x = some o → Z p l e { frames := 10, cells := 2240, slots := 13440, locals := 195 } s m args below meth c Q 10 2230 13380 (IW D A s ([(q_bl, .inl (g 3, 64, .inl a_bl))] ++ OW g ax ad x)) 272 [(0, .ref (ax 0)), (2, .int x2), (4, .int x4), (5, .int x5)] [.int t0, .int t1] := by
    intro t0 t1 x2 x4 x5 x h
    refine z_icmp_ne X 348 dL_looked_272 (by decide) h (fun _ h => ?_) (fun _ h => ?_)
    · refine z_aload_n X 0 dL_looked_275 rfl rfl ?_
      refine z_iload X 3 dL_looked_276 rfl ?_
      obtain ⟨o16, e17, h⟩ := bnd_p h
      have f18 := bk_appP (X := OW g ax ad x) (X' := OW g ax ad x) (perm_of (n := 1) (E := [(q_bl, .inl (g 3, 64, .inl a_bl))]) (wc := []) (wr := [(q_bl, .inl (g 3, 64, .inl a_bl))]) [] [0] rfl rfl rfl (by decide +kernel)) (perm_of (n := 1) (E := [(q_bl, .inl (g 3, 64, .inl a_bl))]) (wc := []) (wr := [(q_bl, .inl (g 3, 64, .inl a_bl))]) [] [0] rfl rfl rfl (by decide +kernel)) rfl OW_fst
      refine z_gSH (rest := []) (ws' := ([(q_bl, .inl (g 3, 64, .inl a_bl))] ++ OW g ax ad x)) X (KF_ok ev) (kc_of (KF_ok ev) (fun _ _ _ q => q) hK hA f18.1) hA k_L_fix (c_L_fix l hfl ev D g ad ax x5 x o16 e17) ql_L_L_fix dL_looked_278 f18.1 f18.2 rfl rfl ⟨Nat.le_of_ble_eq_true rfl, Nat.le_of_ble_eq_true rfl, rfl, rfl, (Nat.le_trans (m := 2240) (by first | exact Nat.le_of_ble_eq_true rfl | omega) (Nat.le_of_ble_eq_true rfl)), (Nat.le_trans (m := 13440) (by first | exact Nat.le_of_ble_eq_true rfl | omega) (Nat.le_of_ble_eq_true rfl))⟩ (Nat.le_of_ble_eq_true rfl) ?_
      refine z_bipush X ((-13) : Int32) dL_looked_281 (by decide) ?_
      refine z_icmp_ne X 348 dL_looked_283 (by decide) h (fun _ h => ?_) (fun _ h => ?_)
      · refine z_aload_n X 0 dL_looked_286 rfl rfl ?_
        refine z_iconst X ((-1) : Int32) dL_looked_287 (by decide) ?_
        obtain ⟨o19, e20, h⟩ := bnd_p h
        have f21 := bk_appP (X := OW g ax ad x) (X' := OW g ax ad x) (perm_of (n := 1) (E := [(q_bl, .inl (g 3, 64, .inl a_bl))]) (wc := []) (wr := [(q_bl, .inl (g 3, 64, .inl a_bl))]) [] [0] rfl rfl rfl (by decide +kernel)) (perm_of (n := 1) (E := [(q_bl, .inl (g 3, 64, .inl a_bl))]) (wc := []) (wr := [(q_bl, .inl (g 3, 64, .inl a_bl))]) [] [0] rfl rfl rfl (by decide +kernel)) rfl OW_fst
        refine z_gSH (rest := []) (ws' := ([(q_bl, .inl (g 3, 64, .inl a_bl))] ++ OW g ax ad x)) X (KF_ok ev) (kc_of (KF_ok ev) (fun _ _ _ q => q) hK hA f21.1) hA k_L_fix (c_L_fix l hfl ev D g ad ax ((-1) : Int32) x o19 e20) ql_L_L_fix dL_looked_288 f21.1 f21.2 rfl rfl ⟨Nat.le_of_ble_eq_true rfl, Nat.le_of_ble_eq_true rfl, rfl, rfl, (Nat.le_trans (m := 2240) (by first | exact Nat.le_of_ble_eq_true rfl | omega) (Nat.le_of_ble_eq_true rfl)), (Nat.le_trans (m := 13440) (by first | exact Nat.le_of_ble_eq_true rfl | omega) (Nat.le_of_ble_eq_true rfl))⟩ (Nat.le_of_ble_eq_true rfl) ?_
        refine z_bipush X ((-13) : Int32) dL_looked_291 (by decide) ?_
        refine z_icmp_ne X 348 dL_looked_293 (by decide) h (fun _ h => ?_) (fun _ h => ?_)
        · refine z_aload_n X 0 dL_looked_296 rfl rfl ?_
          refine z_bipush X (64 : Int32) dL_looked_297 (by decide) ?_
          obtain ⟨o22, e23, h⟩ := bnd_p h
          have f24 := bk_appP (X := OW g ax ad x) (X' := OW g ax ad x) (perm_of (n := 1) (E := [(q_bl, .inl (g 3, 64, .inl a_bl))]) (wc := []) (wr := [(q_bl, .inl (g 3, 64, .inl a_bl))]) [] [0] rfl rfl rfl (by decide +kernel)) (perm_of (n := 1) (E := [(q_bl, .inl (g 3, 64, .inl a_bl))]) (wc := []) (wr := [(q_bl, .inl (g 3, 64, .inl a_bl))]) [] [0] rfl rfl rfl (by decide +kernel)) rfl OW_fst
          refine z_gSH (rest := []) (ws' := ([(q_bl, .inl (g 3, 64, .inl a_bl))] ++ OW g ax ad x)) X (KF_ok ev) (kc_of (KF_ok ev) (fun _ _ _ q => q) hK hA f24.1) hA k_L_fits (c_L_fits l hfl ev D g ad ax (64 : Int32) x o22 e23) ql_L_L_fits dL_looked_299 f24.1 f24.2 rfl rfl ⟨Nat.le_of_ble_eq_true rfl, Nat.le_of_ble_eq_true rfl, rfl, rfl, (Nat.le_trans (m := 2240) (by first | exact Nat.le_of_ble_eq_true rfl | omega) (Nat.le_of_ble_eq_true rfl)), (Nat.le_trans (m := 13440) (by first | exact Nat.le_of_ble_eq_true rfl | omega) (Nat.le_of_ble_eq_true rfl))⟩ (Nat.le_of_ble_eq_true rfl) ?_
          refine z_bipush X ((-12) : Int32) dL_looked_302 (by decide) ?_
          refine z_icmp_ne X 348 dL_looked_304 (by decide) h (fun _ h => ?_) (fun _ h => ?_)
          · refine z_aload_n X 0 dL_looked_307 rfl rfl ?_
            refine z_iload_n X 1 dL_looked_308 rfl rfl ?_
            refine z_iconst X (0 : Int32) dL_looked_309 (by decide) ?_
            obtain ⟨o25, e26, h⟩ := bnd_p h
            have f27 := bk_appP (X := OW g ax ad x) (X' := OW g ax ad x) (perm_of (n := 1) (E := [(q_bl, .inl (g 3, 64, .inl a_bl))]) (wc := []) (wr := [(q_bl, .inl (g 3, 64, .inl a_bl))]) [] [0] rfl rfl rfl (by decide +kernel)) (perm_of (n := 1) (E := [(q_bl, .inl (g 3, 64, .inl a_bl))]) (wc := []) (wr := [(q_bl, .inl (g 3, 64, .inl a_bl))]) [] [0] rfl rfl rfl (by decide +kernel)) rfl OW_fst
            refine z_gSH (rest := []) (ws' := ([(q_bl, .inl (g 3, 64, .inl a_bl))] ++ OW g ax ad x)) X (KF_ok ev) (kc_of (KF_ok ev) (fun _ _ _ q => q) hK hA f27.1) hA k_L_postOf (c_L_postOf l hfl ev D g ad ax x2 (0 : Int32) x o25 e26) ql_L_L_postOf dL_looked_310 f27.1 f27.2 rfl rfl ⟨Nat.le_of_ble_eq_true rfl, Nat.le_of_ble_eq_true rfl, rfl, rfl, (Nat.le_trans (m := 2240) (by first | exact Nat.le_of_ble_eq_true rfl | omega) (Nat.le_of_ble_eq_true rfl)), (Nat.le_trans (m := 13440) (by first | exact Nat.le_of_ble_eq_true rfl | omega) (Nat.le_of_ble_eq_true rfl))⟩ (Nat.le_of_ble_eq_true rfl) ?_
            refine z_bipush X ((-11) : Int32) dL_looked_313 (by decide) ?_
            refine z_icmp_ne X 348 dL_looked_315 (by decide) h (fun _ h => ?_) (fun _ h => ?_)
            · refine z_iload X 2 dL_looked_318 rfl ?_
              refine z_aload_n X 0 dL_looked_320 rfl rfl ?_
              refine z_bipush X (9 : Int32) dL_looked_321 (by decide) ?_
              obtain ⟨o28, e29, h⟩ := bnd_p h
              obtain ⟨hz30, h⟩ := grd_p h
              obtain ⟨wco28, wdo28, hNo28, bo28, do28, xo28⟩ := nx_account l hfl ev.ak ev.av ev.aS D g ad ax (9 : Int32) x o28.1 o28.2.1 o28.2.2 e29
              rw [xo28] at do28
              have fo28 := bk_E (E := [(q_bl, .inl (g 3, 64, .inl a_bl))]) bo28 do28
              refine z_exV (rest := [.int x4]) (q0 := 1) (ci := 11) (ws' := ([(q_bl, .inl (g 3, 64, .inl a_bl))] ++ OW g ax ad x)) X hK.1 hA k_X11_account hNo28 ql_L_X11_account dL_looked_323 fo28.1 fo28.2 rfl rfl rfl rfl rfl ⟨Nat.le_of_ble_eq_true rfl, Nat.le_of_ble_eq_true rfl, rfl, rfl, (Nat.le_trans (m := 2240) (by first | exact Nat.le_of_ble_eq_true rfl | omega) (Nat.le_of_ble_eq_true rfl)), (Nat.le_trans (m := 13440) (by first | exact Nat.le_of_ble_eq_true rfl | omega) (Nat.le_of_ble_eq_true rfl))⟩ (Nat.le_of_ble_eq_true rfl) (fun _ => ?_) (fun q => absurd hz30 q)
              refine z_if_le X 333 dL_looked_326 (by decide) h (fun _ h => ?_) (fun _ h => ?_)
              · refine z_iconst X (0 : Int32) dL_looked_333 (by decide) ?_
                refine z_widen (k := 2240) (n := 13440) (by first | exact Nat.le_of_ble_eq_true rfl | omega) (by first | exact Nat.le_of_ble_eq_true rfl | omega) ?_
                refine z_sub (lv' := [(0, .ref (ax 0))]) [0] rfl ?_
                exact H334 (0 : Int32) x4 x h
              · refine z_iconst X (1 : Int32) dL_looked_329 (by decide) ?_
                refine z_goto X 334 dL_looked_330 (by decide) ?_
                refine z_widen (k := 2240) (n := 13440) (by first | exact Nat.le_of_ble_eq_true rfl | omega) (by first | exact Nat.le_of_ble_eq_true rfl | omega) ?_
                refine z_sub (lv' := [(0, .ref (ax 0))]) [0] rfl ?_
                exact H334 (1 : Int32) x4 x h
            · cases h
          · cases h
        · cases h
      · cases h
    · cases h
  have H252 : ∀ (t0 : Int32) (t1 : Int32) (x2 : Int32) (x4 : Int32) (x5 : Int32) (x : XVal), J_L_looked_252 a_bl t0 t1 x2 x4 x5 x = some o → Z p l e { frames := 10, cells := 2240, slots := 13440, locals := 195 } s m args below meth c Q 10 2229 13374 (IW D A s ([(q_bl, .inl (g 3, 64, .inl a_bl))] ++ OW g ax ad x)) 252 [(0, .ref (ax 0)), (2, .int x2), (4, .int x4), (5, .int x5)] [.int t0, .int t1] := by
    intro t0 t1 x2 x4 x5 x h
    refine z_icmp_ne X 348 dL_looked_252 (by decide) h (fun _ h => ?_) (fun _ h => ?_)
    · refine z_aload_n X 0 dL_looked_255 rfl rfl ?_
      refine z_iconst X (1 : Int32) dL_looked_256 (by decide) ?_
      obtain ⟨o13, e14, h⟩ := bnd_p h
      have f15 := bk_appP (X := OW g ax ad x) (X' := OW g ax ad x) (perm_of (n := 1) (E := [(q_bl, .inl (g 3, 64, .inl a_bl))]) (wc := []) (wr := [(q_bl, .inl (g 3, 64, .inl a_bl))]) [] [0] rfl rfl rfl (by decide +kernel)) (perm_of (n := 1) (E := [(q_bl, .inl (g 3, 64, .inl a_bl))]) (wc := []) (wr := [(q_bl, .inl (g 3, 64, .inl a_bl))]) [] [0] rfl rfl rfl (by decide +kernel)) rfl OW_fst
      refine z_gSH (rest := []) (ws' := ([(q_bl, .inl (g 3, 64, .inl a_bl))] ++ OW g ax ad x)) X (KF_ok ev) (kc_of (KF_ok ev) (fun _ _ _ q => q) hK hA f15.1) hA k_L_fitting (c_L_fitting l hfl ev D g ad ax (1 : Int32) x o13 e14) ql_L_L_fitting dL_looked_257 f15.1 f15.2 rfl rfl ⟨Nat.le_of_ble_eq_true rfl, Nat.le_of_ble_eq_true rfl, rfl, rfl, (Nat.le_trans (m := 2240) (by first | exact Nat.le_of_ble_eq_true rfl | omega) (Nat.le_of_ble_eq_true rfl)), (Nat.le_trans (m := 13440) (by first | exact Nat.le_of_ble_eq_true rfl | omega) (Nat.le_of_ble_eq_true rfl))⟩ (Nat.le_of_ble_eq_true rfl) ?_
      refine z_iload X 2 dL_looked_260 rfl ?_
      refine z_if_eq X 270 dL_looked_262 (by decide) h (fun _ h => ?_) (fun _ h => ?_)
      · refine z_bipush X ((-13) : Int32) dL_looked_270 (by decide) ?_
        refine z_widen (k := 2230) (n := 13380) (by first | exact Nat.le_of_ble_eq_true rfl | omega) (by first | exact Nat.le_of_ble_eq_true rfl | omega) ?_
        exact H272 ((-13) : Int32) o13 x2 x4 x5 x h
      · refine z_iload X 3 dL_looked_265 rfl ?_
        refine z_goto X 272 dL_looked_267 (by decide) ?_
        refine z_widen (k := 2230) (n := 13380) (by first | exact Nat.le_of_ble_eq_true rfl | omega) (by first | exact Nat.le_of_ble_eq_true rfl | omega) ?_
        exact H272 x5 o13 x2 x4 x5 x h
    · cases h
  have H235 : ∀ (x2 : Int32) (x4 : Int32) (x5 : Int32) (x : XVal), J_L_looked_235 a_bl x2 x4 x5 x = some o → Z p l e { frames := 10, cells := 2240, slots := 13440, locals := 195 } s m args below meth c Q 10 2228 13368 (IW D A s ([(q_bl, .inl (g 3, 64, .inl a_bl))] ++ OW g ax ad x)) 235 [(0, .ref (ax 0)), (2, .int x2), (4, .int x4), (5, .int x5)] [] := by
    intro x2 x4 x5 x h
    refine z_aload_n X 0 dL_looked_235 rfl rfl ?_
    refine z_iconst X (0 : Int32) dL_looked_236 (by decide) ?_
    obtain ⟨o10, e11, h⟩ := bnd_p h
    have f12 := bk_appP (X := OW g ax ad x) (X' := OW g ax ad x) (perm_of (n := 1) (E := [(q_bl, .inl (g 3, 64, .inl a_bl))]) (wc := []) (wr := [(q_bl, .inl (g 3, 64, .inl a_bl))]) [] [0] rfl rfl rfl (by decide +kernel)) (perm_of (n := 1) (E := [(q_bl, .inl (g 3, 64, .inl a_bl))]) (wc := []) (wr := [(q_bl, .inl (g 3, 64, .inl a_bl))]) [] [0] rfl rfl rfl (by decide +kernel)) rfl OW_fst
    refine z_gSH (rest := []) (ws' := ([(q_bl, .inl (g 3, 64, .inl a_bl))] ++ OW g ax ad x)) X (KF_ok ev) (kc_of (KF_ok ev) (fun _ _ _ q => q) hK hA f12.1) hA k_L_fitting (c_L_fitting l hfl ev D g ad ax (0 : Int32) x o10 e11) ql_L_L_fitting dL_looked_237 f12.1 f12.2 rfl rfl ⟨Nat.le_of_ble_eq_true rfl, Nat.le_of_ble_eq_true rfl, rfl, rfl, (Nat.le_trans (m := 2240) (by first | exact Nat.le_of_ble_eq_true rfl | omega) (Nat.le_of_ble_eq_true rfl)), (Nat.le_trans (m := 13440) (by first | exact Nat.le_of_ble_eq_true rfl | omega) (Nat.le_of_ble_eq_true rfl))⟩ (Nat.le_of_ble_eq_true rfl) ?_
    refine z_iload X 2 dL_looked_240 rfl ?_
    refine z_if_eq X 250 dL_looked_242 (by decide) h (fun _ h => ?_) (fun _ h => ?_)
    · refine z_bipush X ((-13) : Int32) dL_looked_250 (by decide) ?_
      refine z_widen (k := 2229) (n := 13374) (by first | exact Nat.le_of_ble_eq_true rfl | omega) (by first | exact Nat.le_of_ble_eq_true rfl | omega) ?_
      exact H252 ((-13) : Int32) o10 x2 x4 x5 x h
    · refine z_iload X 3 dL_looked_245 rfl ?_
      refine z_goto X 252 dL_looked_247 (by decide) ?_
      refine z_widen (k := 2229) (n := 13374) (by first | exact Nat.le_of_ble_eq_true rfl | omega) (by first | exact Nat.le_of_ble_eq_true rfl | omega) ?_
      exact H252 x5 o10 x2 x4 x5 x h
  have H63 : ∀ (n : Nat) (x2 : Int32) (x3 : Int32) (x4 : Int32) (x5 : Int32) (x6 : Int32) (x : XVal) (c63 s63 : Nat), c63 + 34 * n ≤ 2227 → s63 + 204 * n ≤ 13362 → L_L_looked_63 a_bl n x2 x3 x4 x5 x6 x = some o → Z p l e { frames := 10, cells := 2240, slots := 13440, locals := 195 } s m args below meth c Q 10 c63 s63 (IW D A s ([(q_bl, .inl (g 3, 64, .inl a_bl))] ++ OW g ax ad x)) 63 [(0, .ref (ax 0)), (1, .ref q_bl), (2, .int x2), (3, .int x3), (4, .int x4), (5, .int x5), (6, .int x6)] [] := by
    intro n
    induction n with
    | zero => intro x2 x3 x4 x5 x6 x c63 s63 _ _ h; cases h
    | succ n63 ih63 =>
      intro x2 x3 x4 x5 x6 x c63 s63 hc63 hs63 h
      have H208 : ∀ (t0 : Int32) (t1 : Int32) (x2 : Int32) (x3 : Int32) (x4 : Int32) (x6 : Int32) (x : XVal), J_L_looked_208 a_bl (L_L_looked_63 a_bl n63) t0 t1 x2 x3 x4 x6 x = some o → Z p l e { frames := 10, cells := 2240, slots := 13440, locals := 195 } s m args below meth c Q 10 (c63 + 34) (s63 + 204) (IW D A s ([(q_bl, .inl (g 3, 64, .inl a_bl))] ++ OW g ax ad x)) 208 [(0, .ref (ax 0)), (1, .ref q_bl), (2, .int x2), (3, .int x3), (4, .int x4), (6, .int x6)] [.int t0, .int t1] := by
        intro t0 t1 x2 x3 x4 x6 x h
        refine z_iadd X dL_looked_208 ?_
        refine z_istore X [(5, .int (t1 + t0)), (0, .ref (ax 0)), (1, .ref q_bl), (2, .int x2), (3, .int x3), (4, .int x4), (6, .int x6)] dL_looked_209 (by decide) rfl ?_
        refine z_iinc X 6 [(6, .int (x6 + 1)), (5, .int (t1 + t0)), (0, .ref (ax 0)), (1, .ref q_bl), (2, .int x2), (3, .int x3), (4, .int x4)] dL_looked_211 rfl rfl (by decide) rfl ?_
        refine z_goto X 63 dL_looked_214 (by decide) ?_
        refine z_sub (lv' := [(0, .ref (ax 0)), (1, .ref q_bl), (2, .int x2), (3, .int x3), (4, .int x4), (5, .int (t1 + t0)), (6, .int (x6 + 1))]) [2, 3, 4, 5, 6, 1, 0] rfl ?_
        exact ih63 x2 x3 x4 (t1 + t0) (x6 + 1) x _ _ (by omega) (by omega) h
      have H196 : ∀ (x2 : Int32) (x3 : Int32) (x4 : Int32) (x5 : Int32) (x6 : Int32) (x7 : Int32) (x : XVal), J_L_looked_196 a_bl (L_L_looked_63 a_bl n63) x2 x3 x4 x5 x6 x7 x = some o → Z p l e { frames := 10, cells := 2240, slots := 13440, locals := 195 } s m args below meth c Q 10 (c63 + 34) (s63 + 204) (IW D A s ([(q_bl, .inl (g 3, 64, .inl a_bl))] ++ OW g ax ad x)) 196 [(0, .ref (ax 0)), (1, .ref q_bl), (2, .int x2), (3, .int x3), (4, .int x4), (5, .int x5), (6, .int x6), (7, .int x7)] [] := by
        intro x2 x3 x4 x5 x6 x7 x h
        refine z_iload X 5 dL_looked_196 rfl ?_
        refine z_iload X 7 dL_looked_198 rfl ?_
        refine z_if_eq X 207 dL_looked_200 (by decide) h (fun _ h => ?_) (fun _ h => ?_)
        · refine z_iconst X (0 : Int32) dL_looked_207 (by decide) ?_
          refine z_widen (k := (c63 + 34)) (n := (s63 + 204)) (by first | exact Nat.le_of_ble_eq_true rfl | omega) (by first | exact Nat.le_of_ble_eq_true rfl | omega) ?_
          refine z_sub (lv' := [(0, .ref (ax 0)), (1, .ref q_bl), (2, .int x2), (3, .int x3), (4, .int x4), (6, .int x6)]) [0, 1, 2, 3, 4, 6] rfl ?_
          exact H208 (0 : Int32) x5 x2 x3 x4 x6 x h
        · refine z_iconst X (1 : Int32) dL_looked_203 (by decide) ?_
          refine z_goto X 208 dL_looked_204 (by decide) ?_
          refine z_widen (k := (c63 + 34)) (n := (s63 + 204)) (by first | exact Nat.le_of_ble_eq_true rfl | omega) (by first | exact Nat.le_of_ble_eq_true rfl | omega) ?_
          refine z_sub (lv' := [(0, .ref (ax 0)), (1, .ref q_bl), (2, .int x2), (3, .int x3), (4, .int x4), (6, .int x6)]) [0, 1, 2, 3, 4, 6] rfl ?_
          exact H208 (1 : Int32) x5 x2 x3 x4 x6 x h
      have H170 : ∀ (t0 : Int32) (t1 : Int32) (x2 : Int32) (x3 : Int32) (x4 : Int32) (x5 : Int32) (x6 : Int32) (x7 : Int32) (x : XVal), J_L_looked_170 a_bl (L_L_looked_63 a_bl n63) t0 t1 x2 x3 x4 x5 x6 x7 x = some o → Z p l e { frames := 10, cells := 2240, slots := 13440, locals := 195 } s m args below meth c Q 10 (c63 + 32) (s63 + 192) (IW D A s ([(q_bl, .inl (g 3, 64, .inl a_bl))] ++ OW g ax ad x)) 170 [(0, .ref (ax 0)), (1, .ref q_bl), (2, .int x2), (3, .int x3), (4, .int x4), (5, .int x5), (6, .int x6), (7, .int x7)] [.int t0, .int t1] := by
        intro t0 t1 x2 x3 x4 x5 x6 x7 x h
        refine z_icmp_ne X 194 dL_looked_170 (by decide) h (fun _ h => ?_) (fun _ h => ?_)
        · refine z_iload X 7 dL_looked_173 rfl ?_
          refine z_if_eq X 196 dL_looked_175 (by decide) h (fun _ h => ?_) (fun _ h => ?_)
          · refine z_widen (k := (c63 + 34)) (n := (s63 + 204)) (by first | exact Nat.le_of_ble_eq_true rfl | omega) (by first | exact Nat.le_of_ble_eq_true rfl | omega) ?_
            exact H196 x2 x3 x4 x5 x6 x7 x h
          · refine z_iload X 4 dL_looked_178 rfl ?_
            refine z_if_eq X 196 dL_looked_180 (by decide) h (fun _ h => ?_) (fun _ h => ?_)
            · refine z_widen (k := (c63 + 34)) (n := (s63 + 204)) (by first | exact Nat.le_of_ble_eq_true rfl | omega) (by first | exact Nat.le_of_ble_eq_true rfl | omega) ?_
              exact H196 x2 x3 x4 x5 x6 x7 x h
            · refine z_aload_n X 0 dL_looked_183 rfl rfl ?_
              refine z_iload X 5 dL_looked_184 rfl ?_
              obtain ⟨o36, e37, h⟩ := bnd_p h
              have f38 := bk_appP (X := OW g ax ad x) (X' := OW g ax ad x) (perm_of (n := 1) (E := [(q_bl, .inl (g 3, 64, .inl a_bl))]) (wc := []) (wr := [(q_bl, .inl (g 3, 64, .inl a_bl))]) [] [0] rfl rfl rfl (by decide +kernel)) (perm_of (n := 1) (E := [(q_bl, .inl (g 3, 64, .inl a_bl))]) (wc := []) (wr := [(q_bl, .inl (g 3, 64, .inl a_bl))]) [] [0] rfl rfl rfl (by decide +kernel)) rfl OW_fst
              refine z_gSH (rest := []) (ws' := ([(q_bl, .inl (g 3, 64, .inl a_bl))] ++ OW g ax ad x)) X (KF_ok ev) (kc_of (KF_ok ev) (fun _ _ _ q => q) hK hA f38.1) hA k_L_fix (c_L_fix l hfl ev D g ad ax x5 x o36 e37) ql_L_L_fix dL_looked_186 f38.1 f38.2 rfl rfl ⟨Nat.le_of_ble_eq_true rfl, Nat.le_of_ble_eq_true rfl, rfl, rfl, (Nat.le_trans (m := 2240) (by first | exact Nat.le_of_ble_eq_true rfl | omega) (Nat.le_of_ble_eq_true rfl)), (Nat.le_trans (m := 13440) (by first | exact Nat.le_of_ble_eq_true rfl | omega) (Nat.le_of_ble_eq_true rfl))⟩ (Nat.le_of_ble_eq_true rfl) ?_
              refine z_iload X 6 dL_looked_189 rfl ?_
              refine z_icmp_eq X 196 dL_looked_191 (by decide) h (fun _ h => ?_) (fun _ h => ?_)
              · refine z_widen (k := (c63 + 34)) (n := (s63 + 204)) (by first | exact Nat.le_of_ble_eq_true rfl | omega) (by first | exact Nat.le_of_ble_eq_true rfl | omega) ?_
                exact H196 x2 x3 x4 x5 x6 x7 x h
              · cases h
        · cases h
      have H87 : ∀ (n : Nat) (x2 : Int32) (x3 : Int32) (x4 : Int32) (x5 : Int32) (x6 : Int32) (x7 : Int32) (x8 : Int32) (x : XVal) (c87 s87 : Nat), c87 + 6 * n ≤ (c63 + 30) → s87 + 36 * n ≤ (s63 + 180) → L_L_looked_87 a_bl (L_L_looked_63 a_bl n63) n x2 x3 x4 x5 x6 x7 x8 x = some o → Z p l e { frames := 10, cells := 2240, slots := 13440, locals := 195 } s m args below meth c Q 10 c87 s87 (IW D A s ([(q_bl, .inl (g 3, 64, .inl a_bl))] ++ OW g ax ad x)) 87 [(0, .ref (ax 0)), (1, .ref q_bl), (2, .int x2), (3, .int x3), (4, .int x4), (5, .int x5), (6, .int x6), (7, .int x7), (8, .int x8)] [] := by
        intro n
        induction n with
        | zero => intro x2 x3 x4 x5 x6 x7 x8 x c87 s87 _ _ h; cases h
        | succ n87 ih87 =>
          intro x2 x3 x4 x5 x6 x7 x8 x c87 s87 hc87 hs87 h
          have H136 : ∀ (t0 : Int32) (x2 : Int32) (x3 : Int32) (x4 : Int32) (x5 : Int32) (x6 : Int32) (x8 : Int32) (x : XVal), J_L_looked_136 a_bl (L_L_looked_63 a_bl n63) (L_L_looked_87 a_bl (L_L_looked_63 a_bl n63) n87) t0 x2 x3 x4 x5 x6 x8 x = some o → Z p l e { frames := 10, cells := 2240, slots := 13440, locals := 195 } s m args below meth c Q 10 (c87 + 6) (s87 + 36) (IW D A s ([(q_bl, .inl (g 3, 64, .inl a_bl))] ++ OW g ax ad x)) 136 [(0, .ref (ax 0)), (1, .ref q_bl), (2, .int x2), (3, .int x3), (4, .int x4), (5, .int x5), (6, .int x6), (8, .int x8)] [.int t0] := by
            intro t0 x2 x3 x4 x5 x6 x8 x h
            refine z_istore X [(7, .int t0), (0, .ref (ax 0)), (1, .ref q_bl), (2, .int x2), (3, .int x3), (4, .int x4), (5, .int x5), (6, .int x6), (8, .int x8)] dL_looked_136 (by decide) rfl ?_
            refine z_iinc X 8 [(8, .int (x8 + 1)), (7, .int t0), (0, .ref (ax 0)), (1, .ref q_bl), (2, .int x2), (3, .int x3), (4, .int x4), (5, .int x5), (6, .int x6)] dL_looked_138 rfl rfl (by decide) rfl ?_
            refine z_goto X 87 dL_looked_141 (by decide) ?_
            refine z_sub (lv' := [(0, .ref (ax 0)), (1, .ref q_bl), (2, .int x2), (3, .int x3), (4, .int x4), (5, .int x5), (6, .int x6), (7, .int t0), (8, .int (x8 + 1))]) [2, 3, 4, 5, 6, 7, 8, 1, 0] rfl ?_
            exact ih87 x2 x3 x4 x5 x6 t0 (x8 + 1) x _ _ (by omega) (by omega) h
          have H135 : ∀ (x2 : Int32) (x3 : Int32) (x4 : Int32) (x5 : Int32) (x6 : Int32) (x8 : Int32) (x : XVal), J_L_looked_135 a_bl (L_L_looked_63 a_bl n63) (L_L_looked_87 a_bl (L_L_looked_63 a_bl n63) n87) x2 x3 x4 x5 x6 x8 x = some o → Z p l e { frames := 10, cells := 2240, slots := 13440, locals := 195 } s m args below meth c Q 10 (c87 + 6) (s87 + 36) (IW D A s ([(q_bl, .inl (g 3, 64, .inl a_bl))] ++ OW g ax ad x)) 135 [(0, .ref (ax 0)), (1, .ref q_bl), (2, .int x2), (3, .int x3), (4, .int x4), (5, .int x5), (6, .int x6), (8, .int x8)] [] := by
            intro x2 x3 x4 x5 x6 x8 x h
            refine z_iconst X (0 : Int32) dL_looked_135 (by decide) ?_
            refine z_widen (k := (c87 + 6)) (n := (s87 + 36)) (by first | exact Nat.le_of_ble_eq_true rfl | omega) (by first | exact Nat.le_of_ble_eq_true rfl | omega) ?_
            exact H136 (0 : Int32) x2 x3 x4 x5 x6 x8 x h
          have H131 : ∀ (x2 : Int32) (x3 : Int32) (x4 : Int32) (x5 : Int32) (x6 : Int32) (x8 : Int32) (x : XVal), J_L_looked_131 a_bl (L_L_looked_63 a_bl n63) (L_L_looked_87 a_bl (L_L_looked_63 a_bl n63) n87) x2 x3 x4 x5 x6 x8 x = some o → Z p l e { frames := 10, cells := 2240, slots := 13440, locals := 195 } s m args below meth c Q 10 (c87 + 6) (s87 + 36) (IW D A s ([(q_bl, .inl (g 3, 64, .inl a_bl))] ++ OW g ax ad x)) 131 [(0, .ref (ax 0)), (1, .ref q_bl), (2, .int x2), (3, .int x3), (4, .int x4), (5, .int x5), (6, .int x6), (8, .int x8)] [] := by
            intro x2 x3 x4 x5 x6 x8 x h
            refine z_iconst X (1 : Int32) dL_looked_131 (by decide) ?_
            refine z_goto X 136 dL_looked_132 (by decide) ?_
            refine z_widen (k := (c87 + 6)) (n := (s87 + 36)) (by first | exact Nat.le_of_ble_eq_true rfl | omega) (by first | exact Nat.le_of_ble_eq_true rfl | omega) ?_
            exact H136 (1 : Int32) x2 x3 x4 x5 x6 x8 x h
          refine z_iload X 8 dL_looked_87 rfl ?_
          refine z_iload_n X 2 dL_looked_89 rfl rfl ?_
          refine z_icmp_ge X 144 dL_looked_90 (by decide) h (fun _ h => ?_) (fun _ h => ?_)
          · refine z_widen (k := (c63 + 30)) (n := (s63 + 180)) (by omega) (by omega) ?_
            refine z_aload_n X 0 dL_looked_144 rfl rfl ?_
            refine z_iload X 6 dL_looked_145 rfl ?_
            obtain ⟨o33, e34, h⟩ := bnd_p h
            have f35 := bk_appP (X := OW g ax ad x) (X' := OW g ax ad x) (perm_of (n := 1) (E := [(q_bl, .inl (g 3, 64, .inl a_bl))]) (wc := []) (wr := [(q_bl, .inl (g 3, 64, .inl a_bl))]) [] [0] rfl rfl rfl (by decide +kernel)) (perm_of (n := 1) (E := [(q_bl, .inl (g 3, 64, .inl a_bl))]) (wc := []) (wr := [(q_bl, .inl (g 3, 64, .inl a_bl))]) [] [0] rfl rfl rfl (by decide +kernel)) rfl OW_fst
            refine z_gSH (rest := []) (ws' := ([(q_bl, .inl (g 3, 64, .inl a_bl))] ++ OW g ax ad x)) X (KF_ok ev) (kc_of (KF_ok ev) (fun _ _ _ q => q) hK hA f35.1) hA k_L_fits (c_L_fits l hfl ev D g ad ax x6 x o33 e34) ql_L_L_fits dL_looked_147 f35.1 f35.2 rfl rfl ⟨Nat.le_of_ble_eq_true rfl, Nat.le_of_ble_eq_true rfl, rfl, rfl, (Nat.le_trans (m := 2240) (by first | exact Nat.le_of_ble_eq_true rfl | omega) (Nat.le_of_ble_eq_true rfl)), (Nat.le_trans (m := 13440) (by first | exact Nat.le_of_ble_eq_true rfl | omega) (Nat.le_of_ble_eq_true rfl))⟩ (Nat.le_of_ble_eq_true rfl) ?_
            refine z_iload X 4 dL_looked_150 rfl ?_
            refine z_if_ne X 160 dL_looked_152 (by decide) h (fun _ h => ?_) (fun _ h => ?_)
            · refine z_bipush X ((-13) : Int32) dL_looked_155 (by decide) ?_
              refine z_goto X 170 dL_looked_157 (by decide) ?_
              refine z_widen (k := (c63 + 32)) (n := (s63 + 192)) (by first | exact Nat.le_of_ble_eq_true rfl | omega) (by first | exact Nat.le_of_ble_eq_true rfl | omega) ?_
              refine z_sub (lv' := [(0, .ref (ax 0)), (1, .ref q_bl), (2, .int x2), (3, .int x3), (4, .int x4), (5, .int x5), (6, .int x6), (7, .int x7)]) [0, 1, 2, 3, 4, 5, 6, 7] rfl ?_
              exact H170 ((-13) : Int32) o33 x2 x3 x4 x5 x6 x7 x h
            · refine z_iload X 7 dL_looked_160 rfl ?_
              refine z_if_eq X 169 dL_looked_162 (by decide) h (fun _ h => ?_) (fun _ h => ?_)
              · refine z_iconst X (0 : Int32) dL_looked_169 (by decide) ?_
                refine z_widen (k := (c63 + 32)) (n := (s63 + 192)) (by first | exact Nat.le_of_ble_eq_true rfl | omega) (by first | exact Nat.le_of_ble_eq_true rfl | omega) ?_
                refine z_sub (lv' := [(0, .ref (ax 0)), (1, .ref q_bl), (2, .int x2), (3, .int x3), (4, .int x4), (5, .int x5), (6, .int x6), (7, .int x7)]) [0, 1, 2, 3, 4, 5, 6, 7] rfl ?_
                exact H170 (0 : Int32) o33 x2 x3 x4 x5 x6 x7 x h
              · refine z_iconst X (1 : Int32) dL_looked_165 (by decide) ?_
                refine z_goto X 170 dL_looked_166 (by decide) ?_
                refine z_widen (k := (c63 + 32)) (n := (s63 + 192)) (by first | exact Nat.le_of_ble_eq_true rfl | omega) (by first | exact Nat.le_of_ble_eq_true rfl | omega) ?_
                refine z_sub (lv' := [(0, .ref (ax 0)), (1, .ref q_bl), (2, .int x2), (3, .int x3), (4, .int x4), (5, .int x5), (6, .int x6), (7, .int x7)]) [0, 1, 2, 3, 4, 5, 6, 7] rfl ?_
                exact H170 (1 : Int32) o33 x2 x3 x4 x5 x6 x7 x h
          · refine z_aload_n X 0 dL_looked_93 rfl rfl ?_
            refine z_iload X 8 dL_looked_94 rfl ?_
            refine z_iconst X (1 : Int32) dL_looked_96 (by decide) ?_
            obtain ⟨o39, e40, h⟩ := bnd_p h
            have f41 := bk_appP (X := OW g ax ad x) (X' := OW g ax ad x) (perm_of (n := 1) (E := [(q_bl, .inl (g 3, 64, .inl a_bl))]) (wc := []) (wr := [(q_bl, .inl (g 3, 64, .inl a_bl))]) [] [0] rfl rfl rfl (by decide +kernel)) (perm_of (n := 1) (E := [(q_bl, .inl (g 3, 64, .inl a_bl))]) (wc := []) (wr := [(q_bl, .inl (g 3, 64, .inl a_bl))]) [] [0] rfl rfl rfl (by decide +kernel)) rfl OW_fst
            refine z_gSH (rest := []) (ws' := ([(q_bl, .inl (g 3, 64, .inl a_bl))] ++ OW g ax ad x)) X (KF_ok ev) (kc_of (KF_ok ev) (fun _ _ _ q => q) hK hA f41.1) hA k_L_postOf (c_L_postOf l hfl ev D g ad ax x8 (1 : Int32) x o39 e40) ql_L_L_postOf dL_looked_97 f41.1 f41.2 rfl rfl ⟨Nat.le_of_ble_eq_true rfl, Nat.le_of_ble_eq_true rfl, rfl, rfl, (Nat.le_trans (m := 2240) (by first | exact Nat.le_of_ble_eq_true rfl | omega) (Nat.le_of_ble_eq_true rfl)), (Nat.le_trans (m := 13440) (by first | exact Nat.le_of_ble_eq_true rfl | omega) (Nat.le_of_ble_eq_true rfl))⟩ (Nat.le_of_ble_eq_true rfl) ?_
            refine z_istore X [(9, .int o39), (0, .ref (ax 0)), (1, .ref q_bl), (2, .int x2), (3, .int x3), (4, .int x4), (5, .int x5), (6, .int x6), (7, .int x7), (8, .int x8)] dL_looked_100 (by decide) rfl ?_
            refine z_iload X 8 dL_looked_102 rfl ?_
            refine z_if_eq X 135 dL_looked_104 (by decide) h (fun _ h => ?_) (fun _ h => ?_)
            · refine z_widen (k := (c87 + 6)) (n := (s87 + 36)) (by first | exact Nat.le_of_ble_eq_true rfl | omega) (by first | exact Nat.le_of_ble_eq_true rfl | omega) ?_
              refine z_sub (lv' := [(0, .ref (ax 0)), (1, .ref q_bl), (2, .int x2), (3, .int x3), (4, .int x4), (5, .int x5), (6, .int x6), (8, .int x8)]) [1, 2, 3, 4, 5, 6, 7, 9] rfl ?_
              exact H135 x2 x3 x4 x5 x6 x8 x h
            · refine z_iload X 0 dL_looked_107 rfl ?_
              refine z_bipush X ((-13) : Int32) dL_looked_109 (by decide) ?_
              refine z_icmp_eq X 131 dL_looked_111 (by decide) h (fun _ h => ?_) (fun _ h => ?_)
              · refine z_widen (k := (c87 + 6)) (n := (s87 + 36)) (by first | exact Nat.le_of_ble_eq_true rfl | omega) (by first | exact Nat.le_of_ble_eq_true rfl | omega) ?_
                refine z_sub (lv' := [(0, .ref (ax 0)), (1, .ref q_bl), (2, .int x2), (3, .int x3), (4, .int x4), (5, .int x5), (6, .int x6), (8, .int x8)]) [1, 2, 3, 4, 5, 6, 7, 9] rfl ?_
                exact H131 x2 x3 x4 x5 x6 x8 x h
              · refine z_iload X 7 dL_looked_114 rfl ?_
                refine z_aload_n X 1 dL_looked_116 rfl rfl ?_
                refine z_iload X 9 dL_looked_117 rfl ?_
                refine z_iconst X (0 : Int32) dL_looked_119 (by decide) ?_
                obtain ⟨o42, e43, h⟩ := bnd_p h
                have f44 := bk_appP (X := OW g ax ad x) (X' := OW g ax ad x) (perm_of (n := 1) (E := [(q_bl, .inl (g 3, 64, .inl a_bl))]) (wc := []) (wr := [(q_bl, .inl (g 3, 64, .inl a_bl))]) [] [0] rfl rfl rfl (by decide +kernel)) (perm_of (n := 1) (E := [(q_bl, .inl (g 3, 64, .inl a_bl))]) (wc := []) (wr := [(q_bl, .inl (g 3, 64, .inl a_bl))]) [] [0] rfl rfl rfl (by decide +kernel)) rfl OW_fst
                refine z_gSH (rest := [.int x6]) (ws' := ([(q_bl, .inl (g 3, 64, .inl a_bl))] ++ OW g ax ad x)) X (KF_ok ev) (kc_of (KF_ok ev) (fun _ _ _ q => q) hK hA f44.1) hA k_L_postOf (c_L_postOf l hfl ev D g ad ax x8 (0 : Int32) x o42 e43) ql_L_L_postOf dL_looked_120 f44.1 f44.2 rfl rfl ⟨Nat.le_of_ble_eq_true rfl, Nat.le_of_ble_eq_true rfl, rfl, rfl, (Nat.le_trans (m := 2240) (by first | exact Nat.le_of_ble_eq_true rfl | omega) (Nat.le_of_ble_eq_true rfl)), (Nat.le_trans (m := 13440) (by first | exact Nat.le_of_ble_eq_true rfl | omega) (Nat.le_of_ble_eq_true rfl))⟩ (Nat.le_of_ble_eq_true rfl) ?_
                obtain ⟨o45, e46, h⟩ := bnd_p h
                have f47 : bkc ([(q_bl, .inl (g 3, 64, .inl a_bl))] ++ OW g ax ad x) [] ∧ bk ([(q_bl, .inl (g 3, 64, .inl a_bl))] ++ OW g ax ad x) ([(q_bl, .inl (g 3, 64, .inl a_bl))] ++ OW g ax ad x) [] [] := ⟨bkc_nil, bk_nil⟩
                refine z_gS (rest := []) (ws' := ([(q_bl, .inl (g 3, 64, .inl a_bl))] ++ OW g ax ad x)) X (KF_ok ev) (kc_of (KF_ok ev) (fun _ _ _ q => q) hK hA f47.1) hA k_L_far (c_L_far l hfl ev D g x6 o42 o45 e46) ql_L_L_far dL_looked_123 f47.1 f47.2 rfl rfl ⟨Nat.le_of_ble_eq_true rfl, Nat.le_of_ble_eq_true rfl, rfl, rfl, (Nat.le_trans (m := 2240) (by first | exact Nat.le_of_ble_eq_true rfl | omega) (Nat.le_of_ble_eq_true rfl)), (Nat.le_trans (m := 13440) (by first | exact Nat.le_of_ble_eq_true rfl | omega) (Nat.le_of_ble_eq_true rfl))⟩ (Nat.le_of_ble_eq_true rfl) ?_
                refine z_iload X 0 dL_looked_126 rfl ?_
                refine z_icmp_ne X 135 dL_looked_128 (by decide) h (fun _ h => ?_) (fun _ h => ?_)
                · refine z_widen (k := (c87 + 6)) (n := (s87 + 36)) (by first | exact Nat.le_of_ble_eq_true rfl | omega) (by first | exact Nat.le_of_ble_eq_true rfl | omega) ?_
                  refine z_sub (lv' := [(0, .ref (ax 0)), (1, .ref q_bl), (2, .int x2), (3, .int x3), (4, .int x4), (5, .int x5), (6, .int x6), (8, .int x8)]) [1, 2, 3, 4, 5, 6, 7, 9] rfl ?_
                  exact H131 x2 x3 x4 x5 x6 x8 x h
                · refine z_widen (k := (c87 + 6)) (n := (s87 + 36)) (by first | exact Nat.le_of_ble_eq_true rfl | omega) (by first | exact Nat.le_of_ble_eq_true rfl | omega) ?_
                  refine z_sub (lv' := [(0, .ref (ax 0)), (1, .ref q_bl), (2, .int x2), (3, .int x3), (4, .int x4), (5, .int x5), (6, .int x6), (8, .int x8)]) [1, 2, 3, 4, 5, 6, 7, 9] rfl ?_
                  exact H135 x2 x3 x4 x5 x6 x8 x h
      have H82 : ∀ (t0 : Int32) (x2 : Int32) (x3 : Int32) (x4 : Int32) (x5 : Int32) (x6 : Int32) (x : XVal), J_L_looked_82 a_bl (L_L_looked_63 a_bl n63) t0 x2 x3 x4 x5 x6 x = some o → Z p l e { frames := 10, cells := 2240, slots := 13440, locals := 195 } s m args below meth c Q 10 (c63 + 0) (s63 + 0) (IW D A s ([(q_bl, .inl (g 3, 64, .inl a_bl))] ++ OW g ax ad x)) 82 [(0, .ref (ax 0)), (1, .ref q_bl), (2, .int x2), (3, .int x3), (4, .int x4), (5, .int x5), (6, .int x6)] [.int t0] := by
        intro t0 x2 x3 x4 x5 x6 x h
        refine z_istore X [(7, .int t0), (0, .ref (ax 0)), (1, .ref q_bl), (2, .int x2), (3, .int x3), (4, .int x4), (5, .int x5), (6, .int x6)] dL_looked_82 (by decide) rfl ?_
        refine z_iconst X (0 : Int32) dL_looked_84 (by decide) ?_
        refine z_istore X [(8, .int (0 : Int32)), (7, .int t0), (0, .ref (ax 0)), (1, .ref q_bl), (2, .int x2), (3, .int x3), (4, .int x4), (5, .int x5), (6, .int x6)] dL_looked_85 (by decide) rfl ?_
        refine z_sub (lv' := [(0, .ref (ax 0)), (1, .ref q_bl), (2, .int x2), (3, .int x3), (4, .int x4), (5, .int x5), (6, .int x6), (7, .int t0), (8, .int (0 : Int32))]) [2, 3, 4, 5, 6, 7, 8, 1, 0] rfl ?_
        exact H87 5 x2 x3 x4 x5 x6 t0 (0 : Int32) x _ _ (by first | exact Nat.le_of_ble_eq_true rfl | omega) (by first | exact Nat.le_of_ble_eq_true rfl | omega) h
      refine z_iload X 6 dL_looked_63 rfl ?_
      refine z_bipush X (64 : Int32) dL_looked_65 (by decide) ?_
      refine z_icmp_ge X 217 dL_looked_67 (by decide) h (fun _ h => ?_) (fun _ h => ?_)
      · refine z_widen (k := 2227) (n := 13362) (by omega) (by omega) ?_
        refine z_aload_n X 0 dL_looked_217 rfl rfl ?_
        refine z_iconst X (5 : Int32) dL_looked_218 (by decide) ?_
        obtain ⟨o7, e8, h⟩ := bnd_p h
        obtain ⟨hz9, h⟩ := grd_p h
        obtain ⟨wco7, wdo7, hNo7, bo7, do7, xo7⟩ := nx_account l hfl ev.ak ev.av ev.aS D g ad ax (5 : Int32) x o7.1 o7.2.1 o7.2.2 e8
        rw [xo7] at do7
        have fo7 := bk_E (E := [(q_bl, .inl (g 3, 64, .inl a_bl))]) bo7 do7
        refine z_exV (rest := []) (q0 := 1) (ci := 11) (ws' := ([(q_bl, .inl (g 3, 64, .inl a_bl))] ++ OW g ax ad x)) X hK.1 hA k_X11_account hNo7 ql_L_X11_account dL_looked_219 fo7.1 fo7.2 rfl rfl rfl rfl rfl ⟨Nat.le_of_ble_eq_true rfl, Nat.le_of_ble_eq_true rfl, rfl, rfl, (Nat.le_trans (m := 2240) (by first | exact Nat.le_of_ble_eq_true rfl | omega) (Nat.le_of_ble_eq_true rfl)), (Nat.le_trans (m := 13440) (by first | exact Nat.le_of_ble_eq_true rfl | omega) (Nat.le_of_ble_eq_true rfl))⟩ (Nat.le_of_ble_eq_true rfl) (fun _ => ?_) (fun q => absurd hz9 q)
        refine z_iload_n X 3 dL_looked_222 rfl rfl ?_
        refine z_icmp_ne X 348 dL_looked_223 (by decide) h (fun _ h => ?_) (fun _ h => ?_)
        · refine z_iload X 4 dL_looked_226 rfl ?_
          refine z_if_ne X 235 dL_looked_228 (by decide) h (fun _ h => ?_) (fun _ h => ?_)
          · refine z_iload_n X 3 dL_looked_231 rfl rfl ?_
            refine z_if_ne X 348 dL_looked_232 (by decide) h (fun _ h => ?_) (fun _ h => ?_)
            · refine z_widen (k := 2228) (n := 13368) (by first | exact Nat.le_of_ble_eq_true rfl | omega) (by first | exact Nat.le_of_ble_eq_true rfl | omega) ?_
              refine z_sub (lv' := [(0, .ref (ax 0)), (2, .int x2), (4, .int x4), (5, .int x5)]) [0, 2, 4, 5] rfl ?_
              exact H235 x2 x4 x5 x h
            · cases h
          · refine z_widen (k := 2228) (n := 13368) (by first | exact Nat.le_of_ble_eq_true rfl | omega) (by first | exact Nat.le_of_ble_eq_true rfl | omega) ?_
            refine z_sub (lv' := [(0, .ref (ax 0)), (2, .int x2), (4, .int x4), (5, .int x5)]) [0, 2, 4, 5] rfl ?_
            exact H235 x2 x4 x5 x h
        · cases h
      · refine z_aload_n X 1 dL_looked_70 rfl rfl ?_
        refine z_iload X 6 dL_looked_71 rfl ?_
        refine z_zald (q0 := 0) X IW_P dL_looked_73 rfl h (fun h => ?_)
        refine z_if_ne X 81 dL_looked_74 (by decide) h (fun _ h => ?_) (fun _ h => ?_)
        · refine z_iconst X (1 : Int32) dL_looked_77 (by decide) ?_
          refine z_goto X 82 dL_looked_78 (by decide) ?_
          refine z_widen (k := (c63 + 0)) (n := (s63 + 0)) (by first | exact Nat.le_of_ble_eq_true rfl | omega) (by first | exact Nat.le_of_ble_eq_true rfl | omega) ?_
          exact H82 (1 : Int32) x2 x3 x4 x5 x6 x h
        · refine z_iconst X (0 : Int32) dL_looked_81 (by decide) ?_
          refine z_widen (k := (c63 + 0)) (n := (s63 + 0)) (by first | exact Nat.le_of_ble_eq_true rfl | omega) (by first | exact Nat.le_of_ble_eq_true rfl | omega) ?_
          exact H82 (0 : Int32) x2 x3 x4 x5 x6 x h
  have H55 : ∀ (t0 : Int32) (x2 : Int32) (x3 : Int32) (x : XVal), J_L_looked_55 a_bl t0 x2 x3 x = some o → Z p l e { frames := 10, cells := 2240, slots := 13440, locals := 195 } s m args below meth c Q 10 17 102 (IW D A s ([(q_bl, .inl (g 3, 64, .inl a_bl))] ++ OW g ax ad x)) 55 [(0, .ref (ax 0)), (1, .ref q_bl), (2, .int x2), (3, .int x3)] [.int t0] := by
    intro t0 x2 x3 x h
    refine z_istore X [(4, .int t0), (0, .ref (ax 0)), (1, .ref q_bl), (2, .int x2), (3, .int x3)] dL_looked_55 (by decide) rfl ?_
    refine z_iconst X (0 : Int32) dL_looked_57 (by decide) ?_
    refine z_istore X [(5, .int (0 : Int32)), (4, .int t0), (0, .ref (ax 0)), (1, .ref q_bl), (2, .int x2), (3, .int x3)] dL_looked_58 (by decide) rfl ?_
    refine z_iconst X (0 : Int32) dL_looked_60 (by decide) ?_
    refine z_istore X [(6, .int (0 : Int32)), (5, .int (0 : Int32)), (4, .int t0), (0, .ref (ax 0)), (1, .ref q_bl), (2, .int x2), (3, .int x3)] dL_looked_61 (by decide) rfl ?_
    refine z_sub (lv' := [(0, .ref (ax 0)), (1, .ref q_bl), (2, .int x2), (3, .int x3), (4, .int t0), (5, .int (0 : Int32)), (6, .int (0 : Int32))]) [3, 4, 5, 6, 2, 1, 0] rfl ?_
    exact H63 65 x2 x3 t0 (0 : Int32) (0 : Int32) x _ _ (by first | exact Nat.le_of_ble_eq_true rfl | omega) (by first | exact Nat.le_of_ble_eq_true rfl | omega) h
  have H11 : ∀ (n : Nat) (x2 : Int32) (x3 : Int32) (x4 : Int32) (x : XVal) (c11 s11 : Nat), c11 + 3 * n ≤ 16 → s11 + 18 * n ≤ 96 → L_L_looked_11 a_bl n x2 x3 x4 x = some o → Z p l e { frames := 10, cells := 2240, slots := 13440, locals := 195 } s m args below meth c Q 10 c11 s11 (IW D A s ([(q_bl, .inl (g 3, 64, .inl a_bl))] ++ OW g ax ad x)) 11 [(0, .ref (ax 0)), (1, .ref q_bl), (2, .int x2), (3, .int x3), (4, .int x4)] [] := by
    intro n
    induction n with
    | zero => intro x2 x3 x4 x c11 s11 _ _ h; cases h
    | succ n11 ih11 =>
      intro x2 x3 x4 x c11 s11 hc11 hs11 h
      have H33 : ∀ (t0 : Int32) (t1 : Int32) (x2 : Int32) (x4 : Int32) (x : XVal), J_L_looked_33 a_bl (L_L_looked_11 a_bl n11) t0 t1 x2 x4 x = some o → Z p l e { frames := 10, cells := 2240, slots := 13440, locals := 195 } s m args below meth c Q 10 (c11 + 3) (s11 + 18) (IW D A s ([(q_bl, .inl (g 3, 64, .inl a_bl))] ++ OW g ax ad x)) 33 [(0, .ref (ax 0)), (1, .ref q_bl), (2, .int x2), (4, .int x4)] [.int t0, .int t1] := by
        intro t0 t1 x2 x4 x h
        refine z_iadd X dL_looked_33 ?_
        refine z_istore_n X [(3, .int (t1 + t0)), (0, .ref (ax 0)), (1, .ref q_bl), (2, .int x2), (4, .int x4)] dL_looked_34 rfl (by decide) rfl ?_
        refine z_iinc X 4 [(4, .int (x4 + 1)), (3, .int (t1 + t0)), (0, .ref (ax 0)), (1, .ref q_bl), (2, .int x2)] dL_looked_35 rfl rfl (by decide) rfl ?_
        refine z_goto X 11 dL_looked_38 (by decide) ?_
        refine z_sub (lv' := [(0, .ref (ax 0)), (1, .ref q_bl), (2, .int x2), (3, .int (t1 + t0)), (4, .int (x4 + 1))]) [2, 3, 4, 1, 0] rfl ?_
        exact ih11 x2 (t1 + t0) (x4 + 1) x _ _ (by omega) (by omega) h
      refine z_iload X 4 dL_looked_11 rfl ?_
      refine z_iload_n X 2 dL_looked_13 rfl rfl ?_
      refine z_icmp_ge X 41 dL_looked_14 (by decide) h (fun _ h => ?_) (fun _ h => ?_)
      · refine z_widen (k := 16) (n := 96) (by omega) (by omega) ?_
        refine z_aload_n X 0 dL_looked_41 rfl rfl ?_
        refine z_bipush X (10 : Int32) dL_looked_42 (by decide) ?_
        obtain ⟨o4, e5, h⟩ := bnd_p h
        obtain ⟨hz6, h⟩ := grd_p h
        obtain ⟨wco4, wdo4, hNo4, bo4, do4, xo4⟩ := nx_account l hfl ev.ak ev.av ev.aS D g ad ax (10 : Int32) x o4.1 o4.2.1 o4.2.2 e5
        rw [xo4] at do4
        have fo4 := bk_E (E := [(q_bl, .inl (g 3, 64, .inl a_bl))]) bo4 do4
        refine z_exV (rest := []) (q0 := 1) (ci := 11) (ws' := ([(q_bl, .inl (g 3, 64, .inl a_bl))] ++ OW g ax ad x)) X hK.1 hA k_X11_account hNo4 ql_L_X11_account dL_looked_44 fo4.1 fo4.2 rfl rfl rfl rfl rfl ⟨Nat.le_of_ble_eq_true rfl, Nat.le_of_ble_eq_true rfl, rfl, rfl, (Nat.le_trans (m := 2240) (by first | exact Nat.le_of_ble_eq_true rfl | omega) (Nat.le_of_ble_eq_true rfl)), (Nat.le_trans (m := 13440) (by first | exact Nat.le_of_ble_eq_true rfl | omega) (Nat.le_of_ble_eq_true rfl))⟩ (Nat.le_of_ble_eq_true rfl) (fun _ => ?_) (fun q => absurd hz6 q)
        refine z_if_lt X 54 dL_looked_47 (by decide) h (fun _ h => ?_) (fun _ h => ?_)
        · refine z_iconst X (0 : Int32) dL_looked_54 (by decide) ?_
          refine z_widen (k := 17) (n := 102) (by first | exact Nat.le_of_ble_eq_true rfl | omega) (by first | exact Nat.le_of_ble_eq_true rfl | omega) ?_
          refine z_sub (lv' := [(0, .ref (ax 0)), (1, .ref q_bl), (2, .int x2), (3, .int x3)]) [0, 1, 2, 3] rfl ?_
          exact H55 (0 : Int32) x2 x3 x h
        · refine z_iconst X (1 : Int32) dL_looked_50 (by decide) ?_
          refine z_goto X 55 dL_looked_51 (by decide) ?_
          refine z_widen (k := 17) (n := 102) (by first | exact Nat.le_of_ble_eq_true rfl | omega) (by first | exact Nat.le_of_ble_eq_true rfl | omega) ?_
          refine z_sub (lv' := [(0, .ref (ax 0)), (1, .ref q_bl), (2, .int x2), (3, .int x3)]) [0, 1, 2, 3] rfl ?_
          exact H55 (1 : Int32) x2 x3 x h
      · refine z_iload_n X 3 dL_looked_17 rfl rfl ?_
        refine z_aload_n X 0 dL_looked_18 rfl rfl ?_
        refine z_iload X 4 dL_looked_19 rfl ?_
        refine z_iconst X (1 : Int32) dL_looked_21 (by decide) ?_
        obtain ⟨o48, e49, h⟩ := bnd_p h
        have f50 := bk_appP (X := OW g ax ad x) (X' := OW g ax ad x) (perm_of (n := 1) (E := [(q_bl, .inl (g 3, 64, .inl a_bl))]) (wc := []) (wr := [(q_bl, .inl (g 3, 64, .inl a_bl))]) [] [0] rfl rfl rfl (by decide +kernel)) (perm_of (n := 1) (E := [(q_bl, .inl (g 3, 64, .inl a_bl))]) (wc := []) (wr := [(q_bl, .inl (g 3, 64, .inl a_bl))]) [] [0] rfl rfl rfl (by decide +kernel)) rfl OW_fst
        refine z_gSH (rest := [.int x3]) (ws' := ([(q_bl, .inl (g 3, 64, .inl a_bl))] ++ OW g ax ad x)) X (KF_ok ev) (kc_of (KF_ok ev) (fun _ _ _ q => q) hK hA f50.1) hA k_L_postOf (c_L_postOf l hfl ev D g ad ax x4 (1 : Int32) x o48 e49) ql_L_L_postOf dL_looked_22 f50.1 f50.2 rfl rfl ⟨Nat.le_of_ble_eq_true rfl, Nat.le_of_ble_eq_true rfl, rfl, rfl, (Nat.le_trans (m := 2240) (by first | exact Nat.le_of_ble_eq_true rfl | omega) (Nat.le_of_ble_eq_true rfl)), (Nat.le_trans (m := 13440) (by first | exact Nat.le_of_ble_eq_true rfl | omega) (Nat.le_of_ble_eq_true rfl))⟩ (Nat.le_of_ble_eq_true rfl) ?_
        refine z_if_lt X 32 dL_looked_25 (by decide) h (fun _ h => ?_) (fun _ h => ?_)
        · refine z_iconst X (0 : Int32) dL_looked_32 (by decide) ?_
          refine z_widen (k := (c11 + 3)) (n := (s11 + 18)) (by first | exact Nat.le_of_ble_eq_true rfl | omega) (by first | exact Nat.le_of_ble_eq_true rfl | omega) ?_
          refine z_sub (lv' := [(0, .ref (ax 0)), (1, .ref q_bl), (2, .int x2), (4, .int x4)]) [0, 1, 2, 4] rfl ?_
          exact H33 (0 : Int32) x3 x2 x4 x h
        · refine z_iconst X (1 : Int32) dL_looked_28 (by decide) ?_
          refine z_goto X 33 dL_looked_29 (by decide) ?_
          refine z_widen (k := (c11 + 3)) (n := (s11 + 18)) (by first | exact Nat.le_of_ble_eq_true rfl | omega) (by first | exact Nat.le_of_ble_eq_true rfl | omega) ?_
          refine z_sub (lv' := [(0, .ref (ax 0)), (1, .ref q_bl), (2, .int x2), (4, .int x4)]) [0, 1, 2, 4] rfl ?_
          exact H33 (1 : Int32) x3 x2 x4 x h
  refine z_aload_n X 0 dL_looked_0 rfl rfl ?_
  refine z_iconst X (4 : Int32) dL_looked_1 (by decide) ?_
  obtain ⟨o1, e2, h⟩ := bnd_p h
  obtain ⟨hz3, h⟩ := grd_p h
  obtain ⟨wco1, wdo1, hNo1, bo1, do1, xo1⟩ := nx_account l hfl ev.ak ev.av ev.aS D g ad ax (4 : Int32) x o1.1 o1.2.1 o1.2.2 e2
  rw [xo1] at do1
  have fo1 := bk_E (E := [(q_bl, .inl (g 3, 64, .inl a_bl))]) bo1 do1
  refine z_exV (rest := []) (q0 := 1) (ci := 11) (ws' := ([(q_bl, .inl (g 3, 64, .inl a_bl))] ++ OW g ax ad x)) X hK.1 hA k_X11_account hNo1 ql_L_X11_account dL_looked_2 fo1.1 fo1.2 rfl rfl rfl rfl rfl ⟨Nat.le_of_ble_eq_true rfl, Nat.le_of_ble_eq_true rfl, rfl, rfl, (Nat.le_trans (m := 2240) (by first | exact Nat.le_of_ble_eq_true rfl | omega) (Nat.le_of_ble_eq_true rfl)), (Nat.le_trans (m := 13440) (by first | exact Nat.le_of_ble_eq_true rfl | omega) (Nat.le_of_ble_eq_true rfl))⟩ (Nat.le_of_ble_eq_true rfl) (fun _ => ?_) (fun q => absurd hz3 q)
  refine z_istore_n X [(2, .int o1.2.1), (0, .ref (ax 0)), (1, .ref q_bl)] dL_looked_5 rfl (by decide) rfl ?_
  refine z_iconst X (0 : Int32) dL_looked_6 (by decide) ?_
  refine z_istore_n X [(3, .int (0 : Int32)), (2, .int o1.2.1), (0, .ref (ax 0)), (1, .ref q_bl)] dL_looked_7 rfl (by decide) rfl ?_
  refine z_iconst X (0 : Int32) dL_looked_8 (by decide) ?_
  refine z_istore X [(4, .int (0 : Int32)), (3, .int (0 : Int32)), (2, .int o1.2.1), (0, .ref (ax 0)), (1, .ref q_bl)] dL_looked_9 (by decide) rfl ?_
  refine z_sub (lv' := [(0, .ref (ax 0)), (1, .ref q_bl), (2, .int o1.2.1), (3, .int (0 : Int32)), (4, .int (0 : Int32))]) [3, 4, 2, 1, 0] rfl ?_
  exact H11 5 o1.2.1 (0 : Int32) (0 : Int32) x _ _ (by first | exact Nat.le_of_ble_eq_true rfl | omega) (by first | exact Nat.le_of_ble_eq_true rfl | omega) h
