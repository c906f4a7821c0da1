def J_L_gone_427 (L : Nat) (xs : Nat → Int32) (a_bl : Nat → Int32) (r332 : Int32 → Int32 → Int32 → Int32 → Int32 → (XVal) → Option (Int32 × XVal)) (x3 : Int32) (x8 : Int32) (x9 : Int32) (x12 : Int32) (x13 : Int32) (x : XVal) : Option (Int32 × XVal) :=
  r332 x3 x8 x9 x13 (x12 + 1) x

def J_L_gone_406 (L : Nat) (xs : Nat → Int32) (a_bl : Nat → Int32) (r332 : Int32 → Int32 → Int32 → Int32 → Int32 → (XVal) → Option (Int32 × XVal)) (t0 : Int32) (x3 : Int32) (x8 : Int32) (x9 : Int32) (x11 : Int32) (x12 : Int32) (x13 : Int32) (x : XVal) : Option (Int32 × XVal) :=
  brn (t0 < 0) (none) (brn (t0 = 0) (brn (x11 ≤ x13) (J_L_gone_427 L xs a_bl (r332) x3 x8 x9 x12 x13 x) (none)) (J_L_gone_427 L xs a_bl (r332) x3 x8 x9 x12 x13 x))

def J_L_gone_379 (L : Nat) (xs : Nat → Int32) (a_bl : Nat → Int32) (r332 : Int32 → Int32 → Int32 → Int32 → Int32 → (XVal) → Option (Int32 × XVal)) (t0 : Int32) (x3 : Int32) (x8 : Int32) (x9 : Int32) (x11 : Int32) (x12 : Int32) (x13 : Int32) (x : XVal) : Option (Int32 × XVal) :=
  brn (t0 = 0) (bnd (F_L_of x11 (3 : Int32) x) (fun o33 => bnd (F_L_of x13 (3 : Int32) x) (fun o36 => J_L_gone_406 L xs a_bl (r332) (o33 - o36) x3 x8 x9 x11 x12 x13 x))) (J_L_gone_406 L xs a_bl (r332) t0 x3 x8 x9 x11 x12 x13 x)

def L_L_gone_332 (L : Nat) (xs : Nat → Int32) (a_bl : Nat → Int32) : Nat → Int32 → Int32 → Int32 → Int32 → Int32 → (XVal) → Option (Int32 × XVal)
  | 0, _, _, _, _, _, _ => none
  | _n + 1, x3, x8, x9, x11, x12, x =>
    brn (x3 ≤ x12) (bnd (F_L_round x8 x) (fun o10 => brn (o10.1 = ((-13) : Int32)) (bnd (G_steps o10.2) (fun o13 => brn (o13.2.1 = x9) (bnd (F_L_ranked x3 o13.2.2) (fun o15 => brn (o15 = ((-13) : Int32)) (bnd (F_L_apart (0 : Int32) (64 : Int32) o13.2.2) (fun o18 => brn (o18 = ((-12) : Int32)) (bnd (F_L_way ((-1) : Int32) (0 : Int32) (1 : Int32) o13.2.2) (fun o21 => brn (o21.1 = ((-12) : Int32)) (some ((1 : Int32), o21.2)) (none))) (none))) (none))) (none))) (none))) (bnd (F_L_ranked x12 x) (fun o24 => brn (0 ≤ o24) (brn (0 ≤ x11) (bnd (F_L_of x11 (4 : Int32) x) (fun o27 => bnd (F_L_of o24 (4 : Int32) x) (fun o30 => J_L_gone_379 L xs a_bl (L_L_gone_332 L xs a_bl _n) (o27 - o30) x3 x8 x9 x11 x12 o24 x))) (J_L_gone_379 L xs a_bl (L_L_gone_332 L xs a_bl _n) (1 : Int32) x3 x8 x9 x11 x12 o24 x)) (J_L_gone_379 L xs a_bl (L_L_gone_332 L xs a_bl _n) ((-1) : Int32) x3 x8 x9 x11 x12 o24 x)))

def J_L_gone_316 (L : Nat) (xs : Nat → Int32) (a_bl : Nat → Int32) (r153 : Int32 → Int32 → Int32 → Int32 → Int32 → Int32 → (XVal) → Option (Int32 × XVal)) (t0 : Int32) (t1 : Int32) (x3 : Int32) (x8 : Int32) (x9 : Int32) (x10 : Int32) (x12 : Int32) (x : XVal) : Option (Int32 × XVal) :=
  r153 x3 (t1 ||| t0) x12 x8 x9 x10 x

def J_L_gone_298 (L : Nat) (xs : Nat → Int32) (a_bl : Nat → Int32) (r153 : Int32 → Int32 → Int32 → Int32 → Int32 → Int32 → (XVal) → Option (Int32 × XVal)) (t0 : Int32) (t1 : Int32) (x3 : Int32) (x6 : Int32) (x8 : Int32) (x10 : Int32) (x12 : Int32) (x : XVal) : Option (Int32 × XVal) :=
  brn (x10 = 0) (J_L_gone_316 L xs a_bl (r153) (0 : Int32) x6 x3 x8 (t1 + t0) x10 x12 x) (J_L_gone_316 L xs a_bl (r153) ((1 : Int32) <<< (x12 &&& 31)) x6 x3 x8 (t1 + t0) x10 x12 x)

def J_L_gone_275 (L : Nat) (xs : Nat → Int32) (a_bl : Nat → Int32) (r153 : Int32 → Int32 → Int32 → Int32 → Int32 → Int32 → (XVal) → Option (Int32 × XVal)) (t0 : Int32) (x3 : Int32) (x6 : Int32) (x8 : Int32) (x9 : Int32) (x12 : Int32) (x : XVal) (a_n182 : Nat → Int32) : Option (Int32 × XVal) :=
  brn (t0 = 0) (J_L_gone_298 L xs a_bl (r153) (0 : Int32) x9 x3 x6 x8 t0 x12 x) (bnd (F_L_of x12 (0 : Int32) x) (fun o48 => grd (inb o48 64) (J_L_gone_298 L xs a_bl (r153) (a_n182 o48.toNatClampNeg) x9 x3 x6 x8 t0 x12 x)))

def J_L_gone_257 (L : Nat) (xs : Nat → Int32) (a_bl : Nat → Int32) (r153 : Int32 → Int32 → Int32 → Int32 → Int32 → Int32 → (XVal) → Option (Int32 × XVal)) (r195 : Int32 → Int32 → Int32 → Int32 → Int32 → Int32 → (XVal) → (Nat → Int32) → Option (Int32 × XVal)) (t0 : Int32) (x3 : Int32) (x6 : Int32) (x8 : Int32) (x9 : Int32) (x13 : Int32) (x : XVal) (a_n182 : Nat → Int32) : Option (Int32 × XVal) :=
  r195 x3 x6 x8 x9 t0 (x13 + (-1)) x a_n182

def J_L_gone_255 (L : Nat) (xs : Nat → Int32) (a_bl : Nat → Int32) (r153 : Int32 → Int32 → Int32 → Int32 → Int32 → Int32 → (XVal) → Option (Int32 × XVal)) (r195 : Int32 → Int32 → Int32 → Int32 → Int32 → Int32 → (XVal) → (Nat → Int32) → Option (Int32 × XVal)) (x3 : Int32) (x6 : Int32) (x8 : Int32) (x9 : Int32) (x12 : Int32) (x13 : Int32) (x : XVal) (a_n182 : Nat → Int32) : Option (Int32 × XVal) :=
  J_L_gone_257 L xs a_bl (r153) (r195) x12 x3 x6 x8 x9 x13 x a_n182

def J_L_gone_250 (L : Nat) (xs : Nat → Int32) (a_bl : Nat → Int32) (r153 : Int32 → Int32 → Int32 → Int32 → Int32 → Int32 → (XVal) → Option (Int32 × XVal)) (r195 : Int32 → Int32 → Int32 → Int32 → Int32 → Int32 → (XVal) → (Nat → Int32) → Option (Int32 × XVal)) (x3 : Int32) (x6 : Int32) (x8 : Int32) (x9 : Int32) (x13 : Int32) (x : XVal) (a_n182 : Nat → Int32) : Option (Int32 × XVal) :=
  J_L_gone_257 L xs a_bl (r153) (r195) x13 x3 x6 x8 x9 x13 x a_n182

def L_L_gone_195 (L : Nat) (xs : Nat → Int32) (a_bl : Nat → Int32) (r153 : Int32 → Int32 → Int32 → Int32 → Int32 → Int32 → (XVal) → Option (Int32 × XVal)) : Nat → Int32 → Int32 → Int32 → Int32 → Int32 → Int32 → (XVal) → (Nat → Int32) → Option (Int32 × XVal)
  | 0, _, _, _, _, _, _, _, _ => none
  | _n + 1, x3, x6, x8, x9, x12, x13, x, a_n182 =>
    brn (x13 < 0) (brn (x12 < 0) (J_L_gone_275 L xs a_bl (r153) (0 : Int32) x3 x6 x8 x9 x12 x a_n182) (J_L_gone_275 L xs a_bl (r153) (1 : Int32) x3 x6 x8 x9 x12 x a_n182)) (bnd (F_L_of x13 (0 : Int32) x) (fun o51 => grd (inb o51 64) (brn (((x6 >>> (x13 &&& 31)) &&& (1 : Int32)) = 0) (brn ((1000 : Int32) ≤ (a_n182 o51.toNatClampNeg)) (J_L_gone_255 L xs a_bl (r153) (L_L_gone_195 L xs a_bl r153 _n) x3 x6 x8 x9 x12 x13 x a_n182) (brn (x12 < 0) (J_L_gone_250 L xs a_bl (r153) (L_L_gone_195 L xs a_bl r153 _n) x3 x6 x8 x9 x13 x a_n182) (bnd (F_L_of x12 (0 : Int32) x) (fun o54 => grd (inb o54 64) (brn ((a_n182 o54.toNatClampNeg) < (a_n182 o51.toNatClampNeg)) (J_L_gone_255 L xs a_bl (r153) (L_L_gone_195 L xs a_bl r153 _n) x3 x6 x8 x9 x12 x13 x a_n182) (J_L_gone_250 L xs a_bl (r153) (L_L_gone_195 L xs a_bl r153 _n) x3 x6 x8 x9 x13 x a_n182)))))) (J_L_gone_255 L xs a_bl (r153) (L_L_gone_195 L xs a_bl r153 _n) x3 x6 x8 x9 x12 x13 x a_n182))))

def L_L_gone_153 (L : Nat) (xs : Nat → Int32) (a_bl : Nat → Int32) : Nat → Int32 → Int32 → Int32 → Int32 → Int32 → Int32 → (XVal) → Option (Int32 × XVal)
  | 0, _, _, _, _, _, _, _ => none
  | _n + 1, x3, x6, x7, x8, x9, x10, x =>
    brn (x10 = 0) (L_L_gone_332 L xs a_bl 11 x3 x8 x9 ((-1) : Int32) (0 : Int32) x) (bnd (F_L_round x8 x) (fun o39 => brn (o39.1 = x7) (bnd (F_L_of x7 (0 : Int32) o39.2) (fun o42 => bnd (F_L_steps o42 a_bl) (fun o45 => L_L_gone_195 L xs a_bl (L_L_gone_153 L xs a_bl _n) 11 x3 x6 (x8 + 1) x9 ((-1) : Int32) (x3 - (1 : Int32)) o39.2 o45))) (none)))

def J_L_gone_151 (L : Nat) (xs : Nat → Int32) (a_bl : Nat → Int32) (t0 : Int32) (x3 : Int32) (x6 : Int32) (x7 : Int32) (x8 : Int32) (x9 : Int32) (x : XVal) : Option (Int32 × XVal) :=
  L_L_gone_153 L xs a_bl 12 x3 x6 x7 x8 x9 t0 x

def J_L_gone_131 (L : Nat) (xs : Nat → Int32) (a_bl : Nat → Int32) (t0 : Int32) (x3 : Int32) (x : XVal) : Option (Int32 × XVal) :=
  brn (x3 ≤ 0) (J_L_gone_151 L xs a_bl (0 : Int32) x3 t0 (0 : Int32) (0 : Int32) (0 : Int32) x) (J_L_gone_151 L xs a_bl (1 : Int32) x3 t0 (0 : Int32) (0 : Int32) (0 : Int32) x)

def J_L_gone_58 (L : Nat) (xs : Nat → Int32) (a_bl : Nat → Int32) (r30 : Int32 → Int32 → Int32 → (XVal) → (Nat → Int32) → Option (Int32 × XVal)) (t0 : Int32) (x3 : Int32) (x4 : Int32) (x6 : Int32) (x : XVal) (a_n22 : Nat → Int32) : Option (Int32 × XVal) :=
  bnd (F_L_apart x4 x6 x) (fun o57 => bnd (F_L_far x4 x6) (fun o60 => brn (o57 = o60) (bnd (F_L_way x4 x6 (0 : Int32) x) (fun o63 => brn (o63.1 = t0) (brn ((x6 - x6 / (9 : Int32) * (9 : Int32)) = 0) (bnd (F_L_way x4 x6 (1 : Int32) o63.2) (fun o66 => brn (o66.1 = t0) (r30 x3 x4 (x6 + 1) o66.2 a_n22) (none))) (r30 x3 x4 (x6 + 1) o63.2 a_n22)) (none))) (none)))

def L_L_gone_30 (L : Nat) (xs : Nat → Int32) (a_bl : Nat → Int32) : Nat → Int32 → Int32 → Int32 → (XVal) → (Nat → Int32) → Option (Int32 × XVal)
  | 0, _, _, _, _, _ => none
  | _n + 1, x3, x4, x6, x, a_n22 =>
    brn ((64 : Int32) ≤ x6) (brn (x3 ≤ 0) (J_L_gone_131 L xs a_bl (0 : Int32) x3 x) (J_L_gone_131 L xs a_bl (1 : Int32) x3 x)) (grd (inb x6 64) (brn ((1000 : Int32) ≤ (a_n22 x6.toNatClampNeg)) (J_L_gone_58 L xs a_bl (L_L_gone_30 L xs a_bl _n) ((-13) : Int32) x3 x4 x6 x a_n22) (grd (inb x6 64) (J_L_gone_58 L xs a_bl (L_L_gone_30 L xs a_bl _n) (a_n22 x6.toNatClampNeg) x3 x4 x6 x a_n22))))

def F_L_gone (L : Nat) (xs : Nat → Int32) (a_bl : Nat → Int32) (x : XVal) : Option (Int32 × XVal) :=
  bnd (G_account (2 : Int32) x) (fun o1 => grd (o1.1 = 0) (bnd (F_L_cell L xs (29 : Int32)) (fun o4 => bnd (F_L_steps ((ushr o4 (1 : Int32)) - (ushr o4 (1 : Int32)) / (64 : Int32) * (64 : Int32)) a_bl) (fun o7 => L_L_gone_30 L xs a_bl 65 o1.2.1 ((ushr o4 (1 : Int32)) - (ushr o4 (1 : Int32)) / (64 : Int32) * (64 : Int32)) (0 : Int32) x o7))))

theorem dL_gone_0 : decode cL_gone 0 = .ok (.aload_n 1, 1) := by decide +kernel
theorem dL_gone_1 : decode cL_gone 1 = .ok (.iconst 2, 1) := by decide +kernel
theorem dL_gone_2 : decode cL_gone 2 = .ok (.invokevirtual 162, 3) := by decide +kernel
theorem dL_gone_5 : decode cL_gone 5 = .ok (.istore_n 3, 1) := by decide +kernel
theorem dL_gone_6 : decode cL_gone 6 = .ok (.aload_n 0, 1) := by decide +kernel
theorem dL_gone_7 : decode cL_gone 7 = .ok (.bipush 29, 2) := by decide +kernel
theorem dL_gone_9 : decode cL_gone 9 = .ok (.invokestatic 145, 3) := by decide +kernel
theorem dL_gone_12 : decode cL_gone 12 = .ok (.iconst 1, 1) := by decide +kernel
theorem dL_gone_13 : decode cL_gone 13 = .ok (.iushr, 1) := by decide +kernel
theorem dL_gone_14 : decode cL_gone 14 = .ok (.bipush 64, 2) := by decide +kernel
theorem dL_gone_16 : decode cL_gone 16 = .ok (.irem, 1) := by decide +kernel
theorem dL_gone_17 : decode cL_gone 17 = .ok (.istore 4, 2) := by decide +kernel
theorem dL_gone_19 : decode cL_gone 19 = .ok (.iload 4, 2) := by decide +kernel
theorem dL_gone_21 : decode cL_gone 21 = .ok (.aload_n 2, 1) := by decide +kernel
theorem dL_gone_22 : decode cL_gone 22 = .ok (.invokestatic 259, 3) := by decide +kernel
theorem dL_gone_25 : decode cL_gone 25 = .ok (.astore 5, 2) := by decide +kernel
theorem dL_gone_27 : decode cL_gone 27 = .ok (.iconst 0, 1) := by decide +kernel
theorem dL_gone_28 : decode cL_gone 28 = .ok (.istore 6, 2) := by decide +kernel
theorem dL_gone_30 : decode cL_gone 30 = .ok (.iload 6, 2) := by decide +kernel
theorem dL_gone_32 : decode cL_gone 32 = .ok (.bipush 64, 2) := by decide +kernel
theorem dL_gone_34 : decode cL_gone 34 = .ok (.if_icmp .ge 88, 3) := by decide +kernel
theorem dL_gone_37 : decode cL_gone 37 = .ok (.aload 5, 2) := by decide +kernel
theorem dL_gone_39 : decode cL_gone 39 = .ok (.iload 6, 2) := by decide +kernel
theorem dL_gone_41 : decode cL_gone 41 = .ok (.iaload, 1) := by decide +kernel
theorem dL_gone_42 : decode cL_gone 42 = .ok (.sipush 1000, 3) := by decide +kernel
theorem dL_gone_45 : decode cL_gone 45 = .ok (.if_icmp .ge 11, 3) := by decide +kernel
theorem dL_gone_48 : decode cL_gone 48 = .ok (.aload 5, 2) := by decide +kernel
theorem dL_gone_50 : decode cL_gone 50 = .ok (.iload 6, 2) := by decide +kernel
theorem dL_gone_52 : decode cL_gone 52 = .ok (.iaload, 1) := by decide +kernel
theorem dL_gone_53 : decode cL_gone 53 = .ok (.goto 5, 3) := by decide +kernel
theorem dL_gone_56 : decode cL_gone 56 = .ok (.bipush (-13), 2) := by decide +kernel
theorem dL_gone_58 : decode cL_gone 58 = .ok (.istore 7, 2) := by decide +kernel
theorem dL_gone_60 : decode cL_gone 60 = .ok (.aload_n 1, 1) := by decide +kernel
theorem dL_gone_61 : decode cL_gone 61 = .ok (.iload 4, 2) := by decide +kernel
theorem dL_gone_63 : decode cL_gone 63 = .ok (.iload 6, 2) := by decide +kernel
theorem dL_gone_65 : decode cL_gone 65 = .ok (.invokestatic 263, 3) := by decide +kernel
theorem dL_gone_68 : decode cL_gone 68 = .ok (.iload 4, 2) := by decide +kernel
theorem dL_gone_70 : decode cL_gone 70 = .ok (.iload 6, 2) := by decide +kernel
theorem dL_gone_72 : decode cL_gone 72 = .ok (.invokestatic 231, 3) := by decide +kernel
theorem dL_gone_75 : decode cL_gone 75 = .ok (.if_icmp .ne 39, 3) := by decide +kernel
theorem dL_gone_78 : decode cL_gone 78 = .ok (.aload_n 1, 1) := by decide +kernel
theorem dL_gone_79 : decode cL_gone 79 = .ok (.iload 4, 2) := by decide +kernel
theorem dL_gone_81 : decode cL_gone 81 = .ok (.iload 6, 2) := by decide +kernel
theorem dL_gone_83 : decode cL_gone 83 = .ok (.iconst 0, 1) := by decide +kernel
theorem dL_gone_84 : decode cL_gone 84 = .ok (.invokestatic 265, 3) := by decide +kernel
theorem dL_gone_87 : decode cL_gone 87 = .ok (.iload 7, 2) := by decide +kernel
theorem dL_gone_89 : decode cL_gone 89 = .ok (.if_icmp .ne 25, 3) := by decide +kernel
theorem dL_gone_92 : decode cL_gone 92 = .ok (.iload 6, 2) := by decide +kernel
theorem dL_gone_94 : decode cL_gone 94 = .ok (.bipush 9, 2) := by decide +kernel
theorem dL_gone_96 : decode cL_gone 96 = .ok (.irem, 1) := by decide +kernel
theorem dL_gone_97 : decode cL_gone 97 = .ok (.ifCond .ne 19, 3) := by decide +kernel
theorem dL_gone_100 : decode cL_gone 100 = .ok (.aload_n 1, 1) := by decide +kernel
theorem dL_gone_101 : decode cL_gone 101 = .ok (.iload 4, 2) := by decide +kernel
theorem dL_gone_103 : decode cL_gone 103 = .ok (.iload 6, 2) := by decide +kernel
theorem dL_gone_105 : decode cL_gone 105 = .ok (.iconst 1, 1) := by decide +kernel
theorem dL_gone_106 : decode cL_gone 106 = .ok (.invokestatic 265, 3) := by decide +kernel
theorem dL_gone_109 : decode cL_gone 109 = .ok (.iload 7, 2) := by decide +kernel
theorem dL_gone_111 : decode cL_gone 111 = .ok (.if_icmp .eq 5, 3) := by decide +kernel
theorem dL_gone_114 : decode cL_gone 114 = .ok (.iconst 0, 1) := by decide +kernel
theorem dL_gone_115 : decode cL_gone 115 = .ok (.ireturn, 1) := by decide +kernel
theorem dL_gone_116 : decode cL_gone 116 = .ok (.iinc 6 1, 3) := by decide +kernel
theorem dL_gone_119 : decode cL_gone 119 = .ok (.goto (-89), 3) := by decide +kernel
theorem dL_gone_122 : decode cL_gone 122 = .ok (.iload_n 3, 1) := by decide +kernel
theorem dL_gone_123 : decode cL_gone 123 = .ok (.ifCond .le 7, 3) := by decide +kernel
theorem dL_gone_126 : decode cL_gone 126 = .ok (.iconst 1, 1) := by decide +kernel
theorem dL_gone_127 : decode cL_gone 127 = .ok (.goto 4, 3) := by decide +kernel
theorem dL_gone_130 : decode cL_gone 130 = .ok (.iconst 0, 1) := by decide +kernel
theorem dL_gone_131 : decode cL_gone 131 = .ok (.istore 6, 2) := by decide +kernel
theorem dL_gone_133 : decode cL_gone 133 = .ok (.iconst 0, 1) := by decide +kernel
theorem dL_gone_134 : decode cL_gone 134 = .ok (.istore 7, 2) := by decide +kernel
theorem dL_gone_136 : decode cL_gone 136 = .ok (.iconst 0, 1) := by decide +kernel
theorem dL_gone_137 : decode cL_gone 137 = .ok (.istore 8, 2) := by decide +kernel
theorem dL_gone_139 : decode cL_gone 139 = .ok (.iconst 0, 1) := by decide +kernel
theorem dL_gone_140 : decode cL_gone 140 = .ok (.istore 9, 2) := by decide +kernel
theorem dL_gone_142 : decode cL_gone 142 = .ok (.iload_n 3, 1) := by decide +kernel
theorem dL_gone_143 : decode cL_gone 143 = .ok (.ifCond .le 7, 3) := by decide +kernel
theorem dL_gone_146 : decode cL_gone 146 = .ok (.iconst 1, 1) := by decide +kernel
theorem dL_gone_147 : decode cL_gone 147 = .ok (.goto 4, 3) := by decide +kernel
theorem dL_gone_150 : decode cL_gone 150 = .ok (.iconst 0, 1) := by decide +kernel
theorem dL_gone_151 : decode cL_gone 151 = .ok (.istore 10, 2) := by decide +kernel
theorem dL_gone_153 : decode cL_gone 153 = .ok (.iload 10, 2) := by decide +kernel
theorem dL_gone_155 : decode cL_gone 155 = .ok (.ifCond .eq 171, 3) := by decide +kernel
theorem dL_gone_158 : decode cL_gone 158 = .ok (.aload_n 1, 1) := by decide +kernel
theorem dL_gone_159 : decode cL_gone 159 = .ok (.iload 8, 2) := by decide +kernel
theorem dL_gone_161 : decode cL_gone 161 = .ok (.invokestatic 268, 3) := by decide +kernel
theorem dL_gone_164 : decode cL_gone 164 = .ok (.iload 7, 2) := by decide +kernel
theorem dL_gone_166 : decode cL_gone 166 = .ok (.if_icmp .eq 5, 3) := by decide +kernel
theorem dL_gone_169 : decode cL_gone 169 = .ok (.iconst 0, 1) := by decide +kernel
theorem dL_gone_170 : decode cL_gone 170 = .ok (.ireturn, 1) := by decide +kernel
theorem dL_gone_171 : decode cL_gone 171 = .ok (.iinc 8 1, 3) := by decide +kernel
theorem dL_gone_174 : decode cL_gone 174 = .ok (.aload_n 1, 1) := by decide +kernel
theorem dL_gone_175 : decode cL_gone 175 = .ok (.iload 7, 2) := by decide +kernel
theorem dL_gone_177 : decode cL_gone 177 = .ok (.iconst 0, 1) := by decide +kernel
theorem dL_gone_178 : decode cL_gone 178 = .ok (.invokestatic 172, 3) := by decide +kernel
theorem dL_gone_181 : decode cL_gone 181 = .ok (.aload_n 2, 1) := by decide +kernel
theorem dL_gone_182 : decode cL_gone 182 = .ok (.invokestatic 259, 3) := by decide +kernel
theorem dL_gone_185 : decode cL_gone 185 = .ok (.astore 11, 2) := by decide +kernel
theorem dL_gone_187 : decode cL_gone 187 = .ok (.iconst (-1), 1) := by decide +kernel
theorem dL_gone_188 : decode cL_gone 188 = .ok (.istore 12, 2) := by decide +kernel
theorem dL_gone_190 : decode cL_gone 190 = .ok (.iload_n 3, 1) := by decide +kernel
theorem dL_gone_191 : decode cL_gone 191 = .ok (.iconst 1, 1) := by decide +kernel
theorem dL_gone_192 : decode cL_gone 192 = .ok (.isub, 1) := by decide +kernel
theorem dL_gone_193 : decode cL_gone 193 = .ok (.istore 13, 2) := by decide +kernel
theorem dL_gone_195 : decode cL_gone 195 = .ok (.iload 13, 2) := by decide +kernel
theorem dL_gone_197 : decode cL_gone 197 = .ok (.ifCond .lt 68, 3) := by decide +kernel
theorem dL_gone_200 : decode cL_gone 200 = .ok (.aload 11, 2) := by decide +kernel
theorem dL_gone_202 : decode cL_gone 202 = .ok (.aload_n 1, 1) := by decide +kernel
theorem dL_gone_203 : decode cL_gone 203 = .ok (.iload 13, 2) := by decide +kernel
theorem dL_gone_205 : decode cL_gone 205 = .ok (.iconst 0, 1) := by decide +kernel
theorem dL_gone_206 : decode cL_gone 206 = .ok (.invokestatic 172, 3) := by decide +kernel
theorem dL_gone_209 : decode cL_gone 209 = .ok (.iaload, 1) := by decide +kernel
theorem dL_gone_210 : decode cL_gone 210 = .ok (.istore 14, 2) := by decide +kernel
theorem dL_gone_212 : decode cL_gone 212 = .ok (.iload 6, 2) := by decide +kernel
theorem dL_gone_214 : decode cL_gone 214 = .ok (.iload 13, 2) := by decide +kernel
theorem dL_gone_216 : decode cL_gone 216 = .ok (.ishr, 1) := by decide +kernel
theorem dL_gone_217 : decode cL_gone 217 = .ok (.iconst 1, 1) := by decide +kernel
theorem dL_gone_218 : decode cL_gone 218 = .ok (.iand, 1) := by decide +kernel
theorem dL_gone_219 : decode cL_gone 219 = .ok (.ifCond .ne 36, 3) := by decide +kernel
theorem dL_gone_222 : decode cL_gone 222 = .ok (.iload 14, 2) := by decide +kernel
theorem dL_gone_224 : decode cL_gone 224 = .ok (.sipush 1000, 3) := by decide +kernel
theorem dL_gone_227 : decode cL_gone 227 = .ok (.if_icmp .ge 28, 3) := by decide +kernel
theorem dL_gone_230 : decode cL_gone 230 = .ok (.iload 12, 2) := by decide +kernel
theorem dL_gone_232 : decode cL_gone 232 = .ok (.ifCond .lt 18, 3) := by decide +kernel
theorem dL_gone_235 : decode cL_gone 235 = .ok (.iload 14, 2) := by decide +kernel
theorem dL_gone_237 : decode cL_gone 237 = .ok (.aload 11, 2) := by decide +kernel
theorem dL_gone_239 : decode cL_gone 239 = .ok (.aload_n 1, 1) := by decide +kernel
theorem dL_gone_240 : decode cL_gone 240 = .ok (.iload 12, 2) := by decide +kernel
theorem dL_gone_242 : decode cL_gone 242 = .ok (.iconst 0, 1) := by decide +kernel
theorem dL_gone_243 : decode cL_gone 243 = .ok (.invokestatic 172, 3) := by decide +kernel
theorem dL_gone_246 : decode cL_gone 246 = .ok (.iaload, 1) := by decide +kernel
theorem dL_gone_247 : decode cL_gone 247 = .ok (.if_icmp .gt 8, 3) := by decide +kernel
theorem dL_gone_250 : decode cL_gone 250 = .ok (.iload 13, 2) := by decide +kernel
theorem dL_gone_252 : decode cL_gone 252 = .ok (.goto 5, 3) := by decide +kernel
theorem dL_gone_255 : decode cL_gone 255 = .ok (.iload 12, 2) := by decide +kernel
theorem dL_gone_257 : decode cL_gone 257 = .ok (.istore 12, 2) := by decide +kernel
theorem dL_gone_259 : decode cL_gone 259 = .ok (.iinc 13 (-1), 3) := by decide +kernel
theorem dL_gone_262 : decode cL_gone 262 = .ok (.goto (-67), 3) := by decide +kernel
theorem dL_gone_265 : decode cL_gone 265 = .ok (.iload 12, 2) := by decide +kernel
theorem dL_gone_267 : decode cL_gone 267 = .ok (.ifCond .lt 7, 3) := by decide +kernel
theorem dL_gone_270 : decode cL_gone 270 = .ok (.iconst 1, 1) := by decide +kernel
theorem dL_gone_271 : decode cL_gone 271 = .ok (.goto 4, 3) := by decide +kernel
theorem dL_gone_274 : decode cL_gone 274 = .ok (.iconst 0, 1) := by decide +kernel
theorem dL_gone_275 : decode cL_gone 275 = .ok (.istore 10, 2) := by decide +kernel
theorem dL_gone_277 : decode cL_gone 277 = .ok (.iload 9, 2) := by decide +kernel
theorem dL_gone_279 : decode cL_gone 279 = .ok (.iload 10, 2) := by decide +kernel
theorem dL_gone_281 : decode cL_gone 281 = .ok (.ifCond .eq 16, 3) := by decide +kernel
theorem dL_gone_284 : decode cL_gone 284 = .ok (.aload 11, 2) := by decide +kernel
theorem dL_gone_286 : decode cL_gone 286 = .ok (.aload_n 1, 1) := by decide +kernel
theorem dL_gone_287 : decode cL_gone 287 = .ok (.iload 12, 2) := by decide +kernel
theorem dL_gone_289 : decode cL_gone 289 = .ok (.iconst 0, 1) := by decide +kernel
theorem dL_gone_290 : decode cL_gone 290 = .ok (.invokestatic 172, 3) := by decide +kernel
theorem dL_gone_293 : decode cL_gone 293 = .ok (.iaload, 1) := by decide +kernel
theorem dL_gone_294 : decode cL_gone 294 = .ok (.goto 4, 3) := by decide +kernel
theorem dL_gone_297 : decode cL_gone 297 = .ok (.iconst 0, 1) := by decide +kernel
theorem dL_gone_298 : decode cL_gone 298 = .ok (.iadd, 1) := by decide +kernel
theorem dL_gone_299 : decode cL_gone 299 = .ok (.istore 9, 2) := by decide +kernel
theorem dL_gone_301 : decode cL_gone 301 = .ok (.iload 6, 2) := by decide +kernel
theorem dL_gone_303 : decode cL_gone 303 = .ok (.iload 10, 2) := by decide +kernel
theorem dL_gone_305 : decode cL_gone 305 = .ok (.ifCond .eq 10, 3) := by decide +kernel
theorem dL_gone_308 : decode cL_gone 308 = .ok (.iconst 1, 1) := by decide +kernel
theorem dL_gone_309 : decode cL_gone 309 = .ok (.iload 12, 2) := by decide +kernel
theorem dL_gone_311 : decode cL_gone 311 = .ok (.ishl, 1) := by decide +kernel
theorem dL_gone_312 : decode cL_gone 312 = .ok (.goto 4, 3) := by decide +kernel
theorem dL_gone_315 : decode cL_gone 315 = .ok (.iconst 0, 1) := by decide +kernel
theorem dL_gone_316 : decode cL_gone 316 = .ok (.ior, 1) := by decide +kernel
theorem dL_gone_317 : decode cL_gone 317 = .ok (.istore 6, 2) := by decide +kernel
theorem dL_gone_319 : decode cL_gone 319 = .ok (.iload 12, 2) := by decide +kernel
theorem dL_gone_321 : decode cL_gone 321 = .ok (.istore 7, 2) := by decide +kernel
theorem dL_gone_323 : decode cL_gone 323 = .ok (.goto (-170), 3) := by decide +kernel
theorem dL_gone_326 : decode cL_gone 326 = .ok (.iconst (-1), 1) := by decide +kernel
theorem dL_gone_327 : decode cL_gone 327 = .ok (.istore 11, 2) := by decide +kernel
theorem dL_gone_329 : decode cL_gone 329 = .ok (.iconst 0, 1) := by decide +kernel
theorem dL_gone_330 : decode cL_gone 330 = .ok (.istore 12, 2) := by decide +kernel
theorem dL_gone_332 : decode cL_gone 332 = .ok (.iload 12, 2) := by decide +kernel
theorem dL_gone_334 : decode cL_gone 334 = .ok (.iload_n 3, 1) := by decide +kernel
theorem dL_gone_335 : decode cL_gone 335 = .ok (.if_icmp .ge 102, 3) := by decide +kernel
theorem dL_gone_338 : decode cL_gone 338 = .ok (.aload_n 1, 1) := by decide +kernel
theorem dL_gone_339 : decode cL_gone 339 = .ok (.iload 12, 2) := by decide +kernel
theorem dL_gone_341 : decode cL_gone 341 = .ok (.invokestatic 270, 3) := by decide +kernel
theorem dL_gone_344 : decode cL_gone 344 = .ok (.istore 13, 2) := by decide +kernel
theorem dL_gone_346 : decode cL_gone 346 = .ok (.iload 13, 2) := by decide +kernel
theorem dL_gone_348 : decode cL_gone 348 = .ok (.ifCond .ge 7, 3) := by decide +kernel
theorem dL_gone_351 : decode cL_gone 351 = .ok (.iconst (-1), 1) := by decide +kernel
theorem dL_gone_352 : decode cL_gone 352 = .ok (.goto 27, 3) := by decide +kernel
theorem dL_gone_355 : decode cL_gone 355 = .ok (.iload 11, 2) := by decide +kernel
theorem dL_gone_357 : decode cL_gone 357 = .ok (.ifCond .ge 7, 3) := by decide +kernel
theorem dL_gone_360 : decode cL_gone 360 = .ok (.iconst 1, 1) := by decide +kernel
theorem dL_gone_361 : decode cL_gone 361 = .ok (.goto 18, 3) := by decide +kernel
theorem dL_gone_364 : decode cL_gone 364 = .ok (.aload_n 1, 1) := by decide +kernel
theorem dL_gone_365 : decode cL_gone 365 = .ok (.iload 11, 2) := by decide +kernel
theorem dL_gone_367 : decode cL_gone 367 = .ok (.iconst 4, 1) := by decide +kernel
theorem dL_gone_368 : decode cL_gone 368 = .ok (.invokestatic 172, 3) := by decide +kernel
theorem dL_gone_371 : decode cL_gone 371 = .ok (.aload_n 1, 1) := by decide +kernel
theorem dL_gone_372 : decode cL_gone 372 = .ok (.iload 13, 2) := by decide +kernel
theorem dL_gone_374 : decode cL_gone 374 = .ok (.iconst 4, 1) := by decide +kernel
theorem dL_gone_375 : decode cL_gone 375 = .ok (.invokestatic 172, 3) := by decide +kernel
theorem dL_gone_378 : decode cL_gone 378 = .ok (.isub, 1) := by decide +kernel
theorem dL_gone_379 : decode cL_gone 379 = .ok (.istore 14, 2) := by decide +kernel
theorem dL_gone_381 : decode cL_gone 381 = .ok (.iload 14, 2) := by decide +kernel
theorem dL_gone_383 : decode cL_gone 383 = .ok (.ifCond .eq 8, 3) := by decide +kernel
theorem dL_gone_386 : decode cL_gone 386 = .ok (.iload 14, 2) := by decide +kernel
theorem dL_gone_388 : decode cL_gone 388 = .ok (.goto 18, 3) := by decide +kernel
theorem dL_gone_391 : decode cL_gone 391 = .ok (.aload_n 1, 1) := by decide +kernel
theorem dL_gone_392 : decode cL_gone 392 = .ok (.iload 11, 2) := by decide +kernel
theorem dL_gone_394 : decode cL_gone 394 = .ok (.iconst 3, 1) := by decide +kernel
theorem dL_gone_395 : decode cL_gone 395 = .ok (.invokestatic 172, 3) := by decide +kernel
theorem dL_gone_398 : decode cL_gone 398 = .ok (.aload_n 1, 1) := by decide +kernel
theorem dL_gone_399 : decode cL_gone 399 = .ok (.iload 13, 2) := by decide +kernel
theorem dL_gone_401 : decode cL_gone 401 = .ok (.iconst 3, 1) := by decide +kernel
theorem dL_gone_402 : decode cL_gone 402 = .ok (.invokestatic 172, 3) := by decide +kernel
theorem dL_gone_405 : decode cL_gone 405 = .ok (.isub, 1) := by decide +kernel
theorem dL_gone_406 : decode cL_gone 406 = .ok (.istore 14, 2) := by decide +kernel
theorem dL_gone_408 : decode cL_gone 408 = .ok (.iload 14, 2) := by decide +kernel
theorem dL_gone_410 : decode cL_gone 410 = .ok (.ifCond .lt 15, 3) := by decide +kernel
theorem dL_gone_413 : decode cL_gone 413 = .ok (.iload 14, 2) := by decide +kernel
theorem dL_gone_415 : decode cL_gone 415 = .ok (.ifCond .ne 12, 3) := by decide +kernel
theorem dL_gone_418 : decode cL_gone 418 = .ok (.iload 13, 2) := by decide +kernel
theorem dL_gone_420 : decode cL_gone 420 = .ok (.iload 11, 2) := by decide +kernel
theorem dL_gone_422 : decode cL_gone 422 = .ok (.if_icmp .ge 5, 3) := by decide +kernel
theorem dL_gone_425 : decode cL_gone 425 = .ok (.iconst 0, 1) := by decide +kernel
theorem dL_gone_426 : decode cL_gone 426 = .ok (.ireturn, 1) := by decide +kernel
theorem dL_gone_427 : decode cL_gone 427 = .ok (.iload 13, 2) := by decide +kernel
theorem dL_gone_429 : decode cL_gone 429 = .ok (.istore 11, 2) := by decide +kernel
theorem dL_gone_431 : decode cL_gone 431 = .ok (.iinc 12 1, 3) := by decide +kernel
theorem dL_gone_434 : decode cL_gone 434 = .ok (.goto (-102), 3) := by decide +kernel
theorem dL_gone_437 : decode cL_gone 437 = .ok (.aload_n 1, 1) := by decide +kernel
theorem dL_gone_438 : decode cL_gone 438 = .ok (.iload 8, 2) := by decide +kernel
theorem dL_gone_440 : decode cL_gone 440 = .ok (.invokestatic 268, 3) := by decide +kernel
theorem dL_gone_443 : decode cL_gone 443 = .ok (.bipush (-13), 2) := by decide +kernel
theorem dL_gone_445 : decode cL_gone 445 = .ok (.if_icmp .ne 50, 3) := by decide +kernel
theorem dL_gone_448 : decode cL_gone 448 = .ok (.aload_n 1, 1) := by decide +kernel
theorem dL_gone_449 : decode cL_gone 449 = .ok (.invokevirtual 272, 3) := by decide +kernel
theorem dL_gone_452 : decode cL_gone 452 = .ok (.iload 9, 2) := by decide +kernel
theorem dL_gone_454 : decode cL_gone 454 = .ok (.if_icmp .ne 41, 3) := by decide +kernel
theorem dL_gone_457 : decode cL_gone 457 = .ok (.aload_n 1, 1) := by decide +kernel
theorem dL_gone_458 : decode cL_gone 458 = .ok (.iload_n 3, 1) := by decide +kernel
theorem dL_gone_459 : decode cL_gone 459 = .ok (.invokestatic 270, 3) := by decide +kernel
theorem dL_gone_462 : decode cL_gone 462 = .ok (.bipush (-13), 2) := by decide +kernel
theorem dL_gone_464 : decode cL_gone 464 = .ok (.if_icmp .ne 31, 3) := by decide +kernel
theorem dL_gone_467 : decode cL_gone 467 = .ok (.aload_n 1, 1) := by decide +kernel
theorem dL_gone_468 : decode cL_gone 468 = .ok (.iconst 0, 1) := by decide +kernel
theorem dL_gone_469 : decode cL_gone 469 = .ok (.bipush 64, 2) := by decide +kernel
theorem dL_gone_471 : decode cL_gone 471 = .ok (.invokestatic 263, 3) := by decide +kernel
theorem dL_gone_474 : decode cL_gone 474 = .ok (.bipush (-12), 2) := by decide +kernel
theorem dL_gone_476 : decode cL_gone 476 = .ok (.if_icmp .ne 19, 3) := by decide +kernel
theorem dL_gone_479 : decode cL_gone 479 = .ok (.aload_n 1, 1) := by decide +kernel
theorem dL_gone_480 : decode cL_gone 480 = .ok (.iconst (-1), 1) := by decide +kernel
theorem dL_gone_481 : decode cL_gone 481 = .ok (.iconst 0, 1) := by decide +kernel
theorem dL_gone_482 : decode cL_gone 482 = .ok (.iconst 1, 1) := by decide +kernel
theorem dL_gone_483 : decode cL_gone 483 = .ok (.invokestatic 265, 3) := by decide +kernel
theorem dL_gone_486 : decode cL_gone 486 = .ok (.bipush (-12), 2) := by decide +kernel
theorem dL_gone_488 : decode cL_gone 488 = .ok (.if_icmp .ne 7, 3) := by decide +kernel
theorem dL_gone_491 : decode cL_gone 491 = .ok (.iconst 1, 1) := by decide +kernel
theorem dL_gone_492 : decode cL_gone 492 = .ok (.goto 4, 3) := by decide +kernel
theorem dL_gone_495 : decode cL_gone 495 = .ok (.iconst 0, 1) := by decide +kernel
theorem dL_gone_496 : decode cL_gone 496 = .ok (.ireturn, 1) := by decide +kernel
theorem k_L_gone : cardS yL_gone (Cond.code yL_gone cL_gone 15 (some .boolean)) 3 := ⟨qs_L_gone, qc_L_gone, qn_L, by decide +kernel, by decide +kernel, by decide +kernel⟩
set_option maxHeartbeats 4000000 in
set_option maxRecDepth 100000 in
theorem c_L_gone (l : Launch) (hfl : l.stackTraces = false) (ev : LEv) (D : va_G) (g : Nat → ClassId) (ad : Nat → Nat → Nat) (ax : Nat → Nat) (q_bl : Nat) (x : XVal) (a_bl : Nat → Int32) (o : Int32 × XVal) (h : F_L_gone ev.L ev.xs a_bl x = some o) : MG l yL_gone (Cond.code yL_gone cL_gone 15 (some .boolean)) { frames := 10, cells := 1031, slots := 6940, locals := 188 } (KF ev) D g [.ref ev.b, .ref (ax 0), .ref q_bl] ([(q_bl, .inl (g 3, 64, .inl a_bl))] ++ OW g ax ad x) (some (.int o.1)) ([(q_bl, .inl (g 3, 64, .inl a_bl))] ++ OW g ax ad o.2) 1031 6940 := by
  refine z_g_start (by decide) (Nat.le_of_ble_eq_true rfl) ?_
  intro p e s m args below meth c Q A X hr hK hA hQ
  refine z_lv (lv' := [(0, .ref ev.b), (1, .ref (ax 0)), (2, .ref q_bl)]) rfl ?_
  have H332 : ∀ (n : Nat) (x3 : Int32) (x8 : Int32) (x9 : Int32) (x11 : Int32) (x12 : Int32) (x : XVal) (c332 s332 : Nat), c332 + 9 * n ≤ 1026 → s332 + 54 * n ≤ 6910 → L_L_gone_332 ev.L ev.xs a_bl n x3 x8 x9 x11 x12 x = some o → Z p l e { frames := 10, cells := 1031, slots := 6940, locals := 188 } s m args below meth c Q 15 c332 s332 (IW D A s ([(q_bl, .inl (g 3, 64, .inl a_bl))] ++ OW g ax ad x)) 332 [(1, .ref (ax 0)), (3, .int x3), (8, .int x8), (9, .int x9), (11, .int x11), (12, .int x12)] [] := by
    intro n
    induction n with
    | zero => intro x3 x8 x9 x11 x12 x c332 s332 _ _ h; cases h
    | succ n332 ih332 =>
      intro x3 x8 x9 x11 x12 x c332 s332 hc332 hs332 h
      have H427 : ∀ (x3 : Int32) (x8 : Int32) (x9 : Int32) (x12 : Int32) (x13 : Int32) (x : XVal), J_L_gone_427 ev.L ev.xs a_bl (L_L_gone_332 ev.L ev.xs a_bl n332) x3 x8 x9 x12 x13 x = some o → Z p l e { frames := 10, cells := 1031, slots := 6940, locals := 188 } s m args below meth c Q 15 (c332 + 9) (s332 + 54) (IW D A s ([(q_bl, .inl (g 3, 64, .inl a_bl))] ++ OW g ax ad x)) 427 [(1, .ref (ax 0)), (3, .int x3), (8, .int x8), (9, .int x9), (12, .int x12), (13, .int x13)] [] := by
        intro x3 x8 x9 x12 x13 x h
        refine z_iload X 5 dL_gone_427 rfl ?_
        refine z_istore X [(11, .int x13), (1, .ref (ax 0)), (3, .int x3), (8, .int x8), (9, .int x9), (12, .int x12), (13, .int x13)] dL_gone_429 (by decide) rfl ?_
        refine z_iinc X 5 [(12, .int (x12 + 1)), (11, .int x13), (1, .ref (ax 0)), (3, .int x3), (8, .int x8), (9, .int x9), (13, .int x13)] dL_gone_431 rfl rfl (by decide) rfl ?_
        refine z_goto X 332 dL_gone_434 (by decide) ?_
        refine z_sub (lv' := [(1, .ref (ax 0)), (3, .int x3), (8, .int x8), (9, .int x9), (11, .int x13), (12, .int (x12 + 1))]) [2, 3, 4, 5, 1, 0] rfl ?_
        exact ih332 x3 x8 x9 x13 (x12 + 1) x _ _ (by omega) (by omega) h
      have H406 : ∀ (t0 : Int32) (x3 : Int32) (x8 : Int32) (x9 : Int32) (x11 : Int32) (x12 : Int32) (x13 : Int32) (x : XVal), J_L_gone_406 ev.L ev.xs a_bl (L_L_gone_332 ev.L ev.xs a_bl n332) t0 x3 x8 x9 x11 x12 x13 x = some o → Z p l e { frames := 10, cells := 1031, slots := 6940, locals := 188 } s m args below meth c Q 15 (c332 + 9) (s332 + 54) (IW D A s ([(q_bl, .inl (g 3, 64, .inl a_bl))] ++ OW g ax ad x)) 406 [(1, .ref (ax 0)), (3, .int x3), (8, .int x8), (9, .int x9), (11, .int x11), (12, .int x12), (13, .int x13)] [.int t0] := by
        intro t0 x3 x8 x9 x11 x12 x13 x h
        refine z_istore X [(14, .int t0), (1, .ref (ax 0)), (3, .int x3), (8, .int x8), (9, .int x9), (11, .int x11), (12, .int x12), (13, .int x13)] dL_gone_406 (by decide) rfl ?_
        refine z_iload X 0 dL_gone_408 rfl ?_
        refine z_if_lt X 425 dL_gone_410 (by decide) h (fun _ h => ?_) (fun _ h => ?_)
        · cases h
        · refine z_iload X 0 dL_gone_413 rfl ?_
          refine z_if_ne X 427 dL_gone_415 (by decide) h (fun _ h => ?_) (fun _ h => ?_)
          · refine z_iload X 7 dL_gone_418 rfl ?_
            refine z_iload X 5 dL_gone_420 rfl ?_
            refine z_icmp_ge X 427 dL_gone_422 (by decide) h (fun _ h => ?_) (fun _ h => ?_)
            · refine z_widen (k := (c332 + 9)) (n := (s332 + 54)) (by first | exact Nat.le_of_ble_eq_true rfl | omega) (by first | exact Nat.le_of_ble_eq_true rfl | omega) ?_
              refine z_sub (lv' := [(1, .ref (ax 0)), (3, .int x3), (8, .int x8), (9, .int x9), (12, .int x12), (13, .int x13)]) [1, 2, 3, 4, 6, 7] rfl ?_
              exact H427 x3 x8 x9 x12 x13 x h
            · cases h
          · refine z_widen (k := (c332 + 9)) (n := (s332 + 54)) (by first | exact Nat.le_of_ble_eq_true rfl | omega) (by first | exact Nat.le_of_ble_eq_true rfl | omega) ?_
            refine z_sub (lv' := [(1, .ref (ax 0)), (3, .int x3), (8, .int x8), (9, .int x9), (12, .int x12), (13, .int x13)]) [1, 2, 3, 4, 6, 7] rfl ?_
            exact H427 x3 x8 x9 x12 x13 x h
      have H379 : ∀ (t0 : Int32) (x3 : Int32) (x8 : Int32) (x9 : Int32) (x11 : Int32) (x12 : Int32) (x13 : Int32) (x : XVal), J_L_gone_379 ev.L ev.xs a_bl (L_L_gone_332 ev.L ev.xs a_bl n332) t0 x3 x8 x9 x11 x12 x13 x = some o → Z p l e { frames := 10, cells := 1031, slots := 6940, locals := 188 } s m args below meth c Q 15 (c332 + 5) (s332 + 30) (IW D A s ([(q_bl, .inl (g 3, 64, .inl a_bl))] ++ OW g ax ad x)) 379 [(1, .ref (ax 0)), (3, .int x3), (8, .int x8), (9, .int x9), (11, .int x11), (12, .int x12), (13, .int x13)] [.int t0] := by
        intro t0 x3 x8 x9 x11 x12 x13 x h
        refine z_istore X [(14, .int t0), (1, .ref (ax 0)), (3, .int x3), (8, .int x8), (9, .int x9), (11, .int x11), (12, .int x12), (13, .int x13)] dL_gone_379 (by decide) rfl ?_
        refine z_iload X 0 dL_gone_381 rfl ?_
        refine z_if_eq X 391 dL_gone_383 (by decide) h (fun _ h => ?_) (fun _ h => ?_)
        · refine z_aload_n X 1 dL_gone_391 rfl rfl ?_
          refine z_iload X 5 dL_gone_392 rfl ?_
          refine z_iconst X (3 : Int32) dL_gone_394 (by decide) ?_
          obtain ⟨o33, e34, h⟩ := bnd_p h
          have f35 := bk_appP (X := OW g ax ad x) (X' := OW g ax ad x) (perm_of (n := 1) (E := [(q_bl, .inl (g 3, 64, .inl a_bl))]) (wc := []) (wr := [(q_bl, .inl (g 3, 64, .inl a_bl))]) [] [0] rfl rfl rfl (by decide +kernel)) (perm_of (n := 1) (E := [(q_bl, .inl (g 3, 64, .inl a_bl))]) (wc := []) (wr := [(q_bl, .inl (g 3, 64, .inl a_bl))]) [] [0] rfl rfl rfl (by decide +kernel)) rfl OW_fst
          refine z_gSH (rest := []) (ws' := ([(q_bl, .inl (g 3, 64, .inl a_bl))] ++ OW g ax ad x)) X (KF_ok ev) (kc_of (KF_ok ev) (fun _ _ _ q => q) hK hA f35.1) hA k_L_of (c_L_of l hfl ev D g ad ax x11 (3 : Int32) x o33 e34) ql_L_L_of dL_gone_395 f35.1 f35.2 rfl rfl ⟨Nat.le_of_ble_eq_true rfl, Nat.le_of_ble_eq_true rfl, rfl, rfl, (Nat.le_trans (m := 1031) (by first | exact Nat.le_of_ble_eq_true rfl | omega) (Nat.le_of_ble_eq_true rfl)), (Nat.le_trans (m := 6940) (by first | exact Nat.le_of_ble_eq_true rfl | omega) (Nat.le_of_ble_eq_true rfl))⟩ (Nat.le_of_ble_eq_true rfl) ?_
          refine z_aload_n X 1 dL_gone_398 rfl rfl ?_
          refine z_iload X 7 dL_gone_399 rfl ?_
          refine z_iconst X (3 : Int32) dL_gone_401 (by decide) ?_
          obtain ⟨o36, e37, h⟩ := bnd_p h
          have f38 := bk_appP (X := OW g ax ad x) (X' := OW g ax ad x) (perm_of (n := 1) (E := [(q_bl, .inl (g 3, 64, .inl a_bl))]) (wc := []) (wr := [(q_bl, .inl (g 3, 64, .inl a_bl))]) [] [0] rfl rfl rfl (by decide +kernel)) (perm_of (n := 1) (E := [(q_bl, .inl (g 3, 64, .inl a_bl))]) (wc := []) (wr := [(q_bl, .inl (g 3, 64, .inl a_bl))]) [] [0] rfl rfl rfl (by decide +kernel)) rfl OW_fst
          refine z_gSH (rest := [.int o33]) (ws' := ([(q_bl, .inl (g 3, 64, .inl a_bl))] ++ OW g ax ad x)) X (KF_ok ev) (kc_of (KF_ok ev) (fun _ _ _ q => q) hK hA f38.1) hA k_L_of (c_L_of l hfl ev D g ad ax x13 (3 : Int32) x o36 e37) ql_L_L_of dL_gone_402 f38.1 f38.2 rfl rfl ⟨Nat.le_of_ble_eq_true rfl, Nat.le_of_ble_eq_true rfl, rfl, rfl, (Nat.le_trans (m := 1031) (by first | exact Nat.le_of_ble_eq_true rfl | omega) (Nat.le_of_ble_eq_true rfl)), (Nat.le_trans (m := 6940) (by first | exact Nat.le_of_ble_eq_true rfl | omega) (Nat.le_of_ble_eq_true rfl))⟩ (Nat.le_of_ble_eq_true rfl) ?_
          refine z_isub X dL_gone_405 ?_
          refine z_widen (k := (c332 + 9)) (n := (s332 + 54)) (by first | exact Nat.le_of_ble_eq_true rfl | omega) (by first | exact Nat.le_of_ble_eq_true rfl | omega) ?_
          refine z_sub (lv' := [(1, .ref (ax 0)), (3, .int x3), (8, .int x8), (9, .int x9), (11, .int x11), (12, .int x12), (13, .int x13)]) [1, 2, 3, 4, 5, 6, 7] rfl ?_
          exact H406 (o33 - o36) x3 x8 x9 x11 x12 x13 x h
        · refine z_iload X 0 dL_gone_386 rfl ?_
          refine z_goto X 406 dL_gone_388 (by decide) ?_
          refine z_widen (k := (c332 + 9)) (n := (s332 + 54)) (by first | exact Nat.le_of_ble_eq_true rfl | omega) (by first | exact Nat.le_of_ble_eq_true rfl | omega) ?_
          refine z_sub (lv' := [(1, .ref (ax 0)), (3, .int x3), (8, .int x8), (9, .int x9), (11, .int x11), (12, .int x12), (13, .int x13)]) [1, 2, 3, 4, 5, 6, 7] rfl ?_
          exact H406 t0 x3 x8 x9 x11 x12 x13 x h
      refine z_iload X 5 dL_gone_332 rfl ?_
      refine z_iload_n X 1 dL_gone_334 rfl rfl ?_
      refine z_icmp_ge X 437 dL_gone_335 (by decide) h (fun _ h => ?_) (fun _ h => ?_)
      · refine z_widen (k := 1026) (n := 6910) (by omega) (by omega) ?_
        refine z_aload_n X 0 dL_gone_437 rfl rfl ?_
        refine z_iload X 2 dL_gone_438 rfl ?_
        obtain ⟨o10, e11, h⟩ := bnd_p h
        have f12 := bk_appP (X := OW g ax ad x) (X' := OW g ax ad o10.2) (perm_of (n := 1) (E := [(q_bl, .inl (g 3, 64, .inl a_bl))]) (wc := []) (wr := [(q_bl, .inl (g 3, 64, .inl a_bl))]) [] [0] rfl rfl rfl (by decide +kernel)) (perm_of (n := 1) (E := [(q_bl, .inl (g 3, 64, .inl a_bl))]) (wc := []) (wr := [(q_bl, .inl (g 3, 64, .inl a_bl))]) [] [0] rfl rfl rfl (by decide +kernel)) rfl OW_fst
        refine z_gSH (rest := []) (ws' := ([(q_bl, .inl (g 3, 64, .inl a_bl))] ++ OW g ax ad o10.2)) X (KF_ok ev) (kc_of (KF_ok ev) (fun _ _ _ q => q) hK hA f12.1) hA k_L_round (c_L_round l hfl ev D g ad ax x8 x o10 e11) ql_L_L_round dL_gone_440 f12.1 f12.2 rfl rfl ⟨Nat.le_of_ble_eq_true rfl, Nat.le_of_ble_eq_true rfl, rfl, rfl, (Nat.le_trans (m := 1031) (by first | exact Nat.le_of_ble_eq_true rfl | omega) (Nat.le_of_ble_eq_true rfl)), (Nat.le_trans (m := 6940) (by first | exact Nat.le_of_ble_eq_true rfl | omega) (Nat.le_of_ble_eq_true rfl))⟩ (Nat.le_of_ble_eq_true rfl) ?_
        refine z_bipush X ((-13) : Int32) dL_gone_443 (by decide) ?_
        refine z_icmp_ne X 495 dL_gone_445 (by decide) h (fun _ h => ?_) (fun _ h => ?_)
        · refine z_aload_n X 0 dL_gone_448 rfl rfl ?_
          obtain ⟨o13, e14, h⟩ := bnd_p h
          obtain ⟨wco13, wdo13, hNo13, bo13, do13, _⟩ := nx_steps l D g ad ax o10.2 o13.1 o13.2.1 o13.2.2 e14
          have fo13 := bk_E (E := [(q_bl, .inl (g 3, 64, .inl a_bl))]) bo13 do13
          refine z_wgV (rest := []) (q0 := 1) (ci := 11) (ws' := ([(q_bl, .inl (g 3, 64, .inl a_bl))] ++ OW g ax ad o13.2.2)) X k_X11_steps hNo13 ql_L_X11_steps dL_gone_449 fo13.1 fo13.2 rfl rfl rfl rfl rfl ⟨Nat.le_of_ble_eq_true rfl, Nat.le_of_ble_eq_true rfl, rfl, rfl, (Nat.le_trans (m := 1031) (by first | exact Nat.le_of_ble_eq_true rfl | omega) (Nat.le_of_ble_eq_true rfl)), (Nat.le_trans (m := 6940) (by first | exact Nat.le_of_ble_eq_true rfl | omega) (Nat.le_of_ble_eq_true rfl))⟩ (Nat.le_of_ble_eq_true rfl) ?_
          refine z_iload X 3 dL_gone_452 rfl ?_
          refine z_icmp_ne X 495 dL_gone_454 (by decide) h (fun _ h => ?_) (fun _ h => ?_)
          · refine z_aload_n X 0 dL_gone_457 rfl rfl ?_
            refine z_iload_n X 1 dL_gone_458 rfl rfl ?_
            obtain ⟨o15, e16, h⟩ := bnd_p h
            have f17 := bk_appP (X := OW g ax ad o13.2.2) (X' := OW g ax ad o13.2.2) (perm_of (n := 1) (E := [(q_bl, .inl (g 3, 64, .inl a_bl))]) (wc := []) (wr := [(q_bl, .inl (g 3, 64, .inl a_bl))]) [] [0] rfl rfl rfl (by decide +kernel)) (perm_of (n := 1) (E := [(q_bl, .inl (g 3, 64, .inl a_bl))]) (wc := []) (wr := [(q_bl, .inl (g 3, 64, .inl a_bl))]) [] [0] rfl rfl rfl (by decide +kernel)) rfl OW_fst
            refine z_gSH (rest := []) (ws' := ([(q_bl, .inl (g 3, 64, .inl a_bl))] ++ OW g ax ad o13.2.2)) X (KF_ok ev) (kc_of (KF_ok ev) (fun _ _ _ q => q) hK hA f17.1) hA k_L_ranked (c_L_ranked l hfl ev D g ad ax x3 o13.2.2 o15 e16) ql_L_L_ranked dL_gone_459 f17.1 f17.2 rfl rfl ⟨Nat.le_of_ble_eq_true rfl, Nat.le_of_ble_eq_true rfl, rfl, rfl, (Nat.le_trans (m := 1031) (by first | exact Nat.le_of_ble_eq_true rfl | omega) (Nat.le_of_ble_eq_true rfl)), (Nat.le_trans (m := 6940) (by first | exact Nat.le_of_ble_eq_true rfl | omega) (Nat.le_of_ble_eq_true rfl))⟩ (Nat.le_of_ble_eq_true rfl) ?_
            refine z_bipush X ((-13) : Int32) dL_gone_462 (by decide) ?_
            refine z_icmp_ne X 495 dL_gone_464 (by decide) h (fun _ h => ?_) (fun _ h => ?_)
            · refine z_aload_n X 0 dL_gone_467 rfl rfl ?_
              refine z_iconst X (0 : Int32) dL_gone_468 (by decide) ?_
              refine z_bipush X (64 : Int32) dL_gone_469 (by decide) ?_
              obtain ⟨o18, e19, h⟩ := bnd_p h
              have f20 := bk_appP (X := OW g ax ad o13.2.2) (X' := OW g ax ad o13.2.2) (perm_of (n := 1) (E := [(q_bl, .inl (g 3, 64, .inl a_bl))]) (wc := []) (wr := [(q_bl, .inl (g 3, 64, .inl a_bl))]) [] [0] rfl rfl rfl (by decide +kernel)) (perm_of (n := 1) (E := [(q_bl, .inl (g 3, 64, .inl a_bl))]) (wc := []) (wr := [(q_bl, .inl (g 3, 64, .inl a_bl))]) [] [0] rfl rfl rfl (by decide +kernel)) rfl OW_fst
              refine z_gSH (rest := []) (ws' := ([(q_bl, .inl (g 3, 64, .inl a_bl))] ++ OW g ax ad o13.2.2)) X (KF_ok ev) (kc_of (KF_ok ev) (fun _ _ _ q => q) hK hA f20.1) hA k_L_apart (c_L_apart l hfl ev D g ad ax (0 : Int32) (64 : Int32) o13.2.2 o18 e19) ql_L_L_apart dL_gone_471 f20.1 f20.2 rfl rfl ⟨Nat.le_of_ble_eq_true rfl, Nat.le_of_ble_eq_true rfl, rfl, rfl, (Nat.le_trans (m := 1031) (by first | exact Nat.le_of_ble_eq_true rfl | omega) (Nat.le_of_ble_eq_true rfl)), (Nat.le_trans (m := 6940) (by first | exact Nat.le_of_ble_eq_true rfl | omega) (Nat.le_of_ble_eq_true rfl))⟩ (Nat.le_of_ble_eq_true rfl) ?_
              refine z_bipush X ((-12) : Int32) dL_gone_474 (by decide) ?_
              refine z_icmp_ne X 495 dL_gone_476 (by decide) h (fun _ h => ?_) (fun _ h => ?_)
              · refine z_aload_n X 0 dL_gone_479 rfl rfl ?_
                refine z_iconst X ((-1) : Int32) dL_gone_480 (by decide) ?_
                refine z_iconst X (0 : Int32) dL_gone_481 (by decide) ?_
                refine z_iconst X (1 : Int32) dL_gone_482 (by decide) ?_
                obtain ⟨o21, e22, h⟩ := bnd_p h
                have f23 := bk_appP (X := OW g ax ad o13.2.2) (X' := OW g ax ad o21.2) (perm_of (n := 1) (E := [(q_bl, .inl (g 3, 64, .inl a_bl))]) (wc := []) (wr := [(q_bl, .inl (g 3, 64, .inl a_bl))]) [] [0] rfl rfl rfl (by decide +kernel)) (perm_of (n := 1) (E := [(q_bl, .inl (g 3, 64, .inl a_bl))]) (wc := []) (wr := [(q_bl, .inl (g 3, 64, .inl a_bl))]) [] [0] rfl rfl rfl (by decide +kernel)) rfl OW_fst
                refine z_gSH (rest := []) (ws' := ([(q_bl, .inl (g 3, 64, .inl a_bl))] ++ OW g ax ad o21.2)) X (KF_ok ev) (kc_of (KF_ok ev) (fun _ _ _ q => q) hK hA f23.1) hA k_L_way (c_L_way l hfl ev D g ad ax ((-1) : Int32) (0 : Int32) (1 : Int32) o13.2.2 o21 e22) ql_L_L_way dL_gone_483 f23.1 f23.2 rfl rfl ⟨Nat.le_of_ble_eq_true rfl, Nat.le_of_ble_eq_true rfl, rfl, rfl, (Nat.le_trans (m := 1031) (by first | exact Nat.le_of_ble_eq_true rfl | omega) (Nat.le_of_ble_eq_true rfl)), (Nat.le_trans (m := 6940) (by first | exact Nat.le_of_ble_eq_true rfl | omega) (Nat.le_of_ble_eq_true rfl))⟩ (Nat.le_of_ble_eq_true rfl) ?_
                refine z_bipush X ((-12) : Int32) dL_gone_486 (by decide) ?_
                refine z_icmp_ne X 495 dL_gone_488 (by decide) h (fun _ h => ?_) (fun _ h => ?_)
                · refine z_iconst X (1 : Int32) dL_gone_491 (by decide) ?_
                  refine z_goto X 496 dL_gone_492 (by decide) ?_
                  cases h
                  exact z_lzret X hQ (by first | exact Nat.le_of_ble_eq_true rfl | omega) (by first | exact Nat.le_of_ble_eq_true rfl | omega) hr dL_gone_496 rfl
                · cases h
              · cases h
            · cases h
          · cases h
        · cases h
      · refine z_aload_n X 0 dL_gone_338 rfl rfl ?_
        refine z_iload X 5 dL_gone_339 rfl ?_
        obtain ⟨o24, e25, h⟩ := bnd_p h
        have f26 := bk_appP (X := OW g ax ad x) (X' := OW g ax ad x) (perm_of (n := 1) (E := [(q_bl, .inl (g 3, 64, .inl a_bl))]) (wc := []) (wr := [(q_bl, .inl (g 3, 64, .inl a_bl))]) [] [0] rfl rfl rfl (by decide +kernel)) (perm_of (n := 1) (E := [(q_bl, .inl (g 3, 64, .inl a_bl))]) (wc := []) (wr := [(q_bl, .inl (g 3, 64, .inl a_bl))]) [] [0] rfl rfl rfl (by decide +kernel)) rfl OW_fst
        refine z_gSH (rest := []) (ws' := ([(q_bl, .inl (g 3, 64, .inl a_bl))] ++ OW g ax ad x)) X (KF_ok ev) (kc_of (KF_ok ev) (fun _ _ _ q => q) hK hA f26.1) hA k_L_ranked (c_L_ranked l hfl ev D g ad ax x12 x o24 e25) ql_L_L_ranked dL_gone_341 f26.1 f26.2 rfl rfl ⟨Nat.le_of_ble_eq_true rfl, Nat.le_of_ble_eq_true rfl, rfl, rfl, (Nat.le_trans (m := 1031) (by first | exact Nat.le_of_ble_eq_true rfl | omega) (Nat.le_of_ble_eq_true rfl)), (Nat.le_trans (m := 6940) (by first | exact Nat.le_of_ble_eq_true rfl | omega) (Nat.le_of_ble_eq_true rfl))⟩ (Nat.le_of_ble_eq_true rfl) ?_
        refine z_istore X [(13, .int o24), (1, .ref (ax 0)), (3, .int x3), (8, .int x8), (9, .int x9), (11, .int x11), (12, .int x12)] dL_gone_344 (by decide) rfl ?_
        refine z_iload X 0 dL_gone_346 rfl ?_
        refine z_if_ge X 355 dL_gone_348 (by decide) h (fun _ h => ?_) (fun _ h => ?_)
        · refine z_iload X 5 dL_gone_355 rfl ?_
          refine z_if_ge X 364 dL_gone_357 (by decide) h (fun _ h => ?_) (fun _ h => ?_)
          · refine z_aload_n X 1 dL_gone_364 rfl rfl ?_
            refine z_iload X 5 dL_gone_365 rfl ?_
            refine z_iconst X (4 : Int32) dL_gone_367 (by decide) ?_
            obtain ⟨o27, e28, h⟩ := bnd_p h
            have f29 := bk_appP (X := OW g ax ad x) (X' := OW g ax ad x) (perm_of (n := 1) (E := [(q_bl, .inl (g 3, 64, .inl a_bl))]) (wc := []) (wr := [(q_bl, .inl (g 3, 64, .inl a_bl))]) [] [0] rfl rfl rfl (by decide +kernel)) (perm_of (n := 1) (E := [(q_bl, .inl (g 3, 64, .inl a_bl))]) (wc := []) (wr := [(q_bl, .inl (g 3, 64, .inl a_bl))]) [] [0] rfl rfl rfl (by decide +kernel)) rfl OW_fst
            refine z_gSH (rest := []) (ws' := ([(q_bl, .inl (g 3, 64, .inl a_bl))] ++ OW g ax ad x)) X (KF_ok ev) (kc_of (KF_ok ev) (fun _ _ _ q => q) hK hA f29.1) hA k_L_of (c_L_of l hfl ev D g ad ax x11 (4 : Int32) x o27 e28) ql_L_L_of dL_gone_368 f29.1 f29.2 rfl rfl ⟨Nat.le_of_ble_eq_true rfl, Nat.le_of_ble_eq_true rfl, rfl, rfl, (Nat.le_trans (m := 1031) (by first | exact Nat.le_of_ble_eq_true rfl | omega) (Nat.le_of_ble_eq_true rfl)), (Nat.le_trans (m := 6940) (by first | exact Nat.le_of_ble_eq_true rfl | omega) (Nat.le_of_ble_eq_true rfl))⟩ (Nat.le_of_ble_eq_true rfl) ?_
            refine z_aload_n X 1 dL_gone_371 rfl rfl ?_
            refine z_iload X 0 dL_gone_372 rfl ?_
            refine z_iconst X (4 : Int32) dL_gone_374 (by decide) ?_
            obtain ⟨o30, e31, h⟩ := bnd_p h
            have f32 := bk_appP (X := OW g ax ad x) (X' := OW g ax ad x) (perm_of (n := 1) (E := [(q_bl, .inl (g 3, 64, .inl a_bl))]) (wc := []) (wr := [(q_bl, .inl (g 3, 64, .inl a_bl))]) [] [0] rfl rfl rfl (by decide +kernel)) (perm_of (n := 1) (E := [(q_bl, .inl (g 3, 64, .inl a_bl))]) (wc := []) (wr := [(q_bl, .inl (g 3, 64, .inl a_bl))]) [] [0] rfl rfl rfl (by decide +kernel)) rfl OW_fst
            refine z_gSH (rest := [.int o27]) (ws' := ([(q_bl, .inl (g 3, 64, .inl a_bl))] ++ OW g ax ad x)) X (KF_ok ev) (kc_of (KF_ok ev) (fun _ _ _ q => q) hK hA f32.1) hA k_L_of (c_L_of l hfl ev D g ad ax o24 (4 : Int32) x o30 e31) ql_L_L_of dL_gone_375 f32.1 f32.2 rfl rfl ⟨Nat.le_of_ble_eq_true rfl, Nat.le_of_ble_eq_true rfl, rfl, rfl, (Nat.le_trans (m := 1031) (by first | exact Nat.le_of_ble_eq_true rfl | omega) (Nat.le_of_ble_eq_true rfl)), (Nat.le_trans (m := 6940) (by first | exact Nat.le_of_ble_eq_true rfl | omega) (Nat.le_of_ble_eq_true rfl))⟩ (Nat.le_of_ble_eq_true rfl) ?_
            refine z_isub X dL_gone_378 ?_
            refine z_widen (k := (c332 + 5)) (n := (s332 + 30)) (by first | exact Nat.le_of_ble_eq_true rfl | omega) (by first | exact Nat.le_of_ble_eq_true rfl | omega) ?_
            refine z_sub (lv' := [(1, .ref (ax 0)), (3, .int x3), (8, .int x8), (9, .int x9), (11, .int x11), (12, .int x12), (13, .int o24)]) [1, 2, 3, 4, 5, 6, 0] rfl ?_
            exact H379 (o27 - o30) x3 x8 x9 x11 x12 o24 x h
          · refine z_iconst X (1 : Int32) dL_gone_360 (by decide) ?_
            refine z_goto X 379 dL_gone_361 (by decide) ?_
            refine z_widen (k := (c332 + 5)) (n := (s332 + 30)) (by first | exact Nat.le_of_ble_eq_true rfl | omega) (by first | exact Nat.le_of_ble_eq_true rfl | omega) ?_
            refine z_sub (lv' := [(1, .ref (ax 0)), (3, .int x3), (8, .int x8), (9, .int x9), (11, .int x11), (12, .int x12), (13, .int o24)]) [1, 2, 3, 4, 5, 6, 0] rfl ?_
            exact H379 (1 : Int32) x3 x8 x9 x11 x12 o24 x h
        · refine z_iconst X ((-1) : Int32) dL_gone_351 (by decide) ?_
          refine z_goto X 379 dL_gone_352 (by decide) ?_
          refine z_widen (k := (c332 + 5)) (n := (s332 + 30)) (by first | exact Nat.le_of_ble_eq_true rfl | omega) (by first | exact Nat.le_of_ble_eq_true rfl | omega) ?_
          refine z_sub (lv' := [(1, .ref (ax 0)), (3, .int x3), (8, .int x8), (9, .int x9), (11, .int x11), (12, .int x12), (13, .int o24)]) [1, 2, 3, 4, 5, 6, 0] rfl ?_
          exact H379 ((-1) : Int32) x3 x8 x9 x11 x12 o24 x h
  have H153 : ∀ (n : Nat) (x3 : Int32) (x6 : Int32) (x7 : Int32) (x8 : Int32) (x9 : Int32) (x10 : Int32) (x : XVal) (c153 s153 : Nat), c153 + 50 * n ≤ 927 → s153 + 358 * n ≤ 6316 → L_L_gone_153 ev.L ev.xs a_bl n x3 x6 x7 x8 x9 x10 x = some o → Z p l e { frames := 10, cells := 1031, slots := 6940, locals := 188 } s m args below meth c Q 15 c153 s153 (IW D A s ([(q_bl, .inl (g 3, 64, .inl a_bl))] ++ OW g ax ad x)) 153 [(1, .ref (ax 0)), (2, .ref q_bl), (3, .int x3), (6, .int x6), (7, .int x7), (8, .int x8), (9, .int x9), (10, .int x10)] [] := by
    intro n
    induction n with
    | zero => intro x3 x6 x7 x8 x9 x10 x c153 s153 _ _ h; cases h
    | succ n153 ih153 =>
      intro x3 x6 x7 x8 x9 x10 x c153 s153 hc153 hs153 h
      have H316 : ∀ (t0 : Int32) (t1 : Int32) (x3 : Int32) (x8 : Int32) (x9 : Int32) (x10 : Int32) (x12 : Int32) (x : XVal), J_L_gone_316 ev.L ev.xs a_bl (L_L_gone_153 ev.L ev.xs a_bl n153) t0 t1 x3 x8 x9 x10 x12 x = some o → Z p l e { frames := 10, cells := 1031, slots := 6940, locals := 188 } s m args below meth c Q 15 (c153 + 50) (s153 + 358) (IW D A s ([(q_bl, .inl (g 3, 64, .inl a_bl))] ++ OW g ax ad x)) 316 [(1, .ref (ax 0)), (2, .ref q_bl), (3, .int x3), (8, .int x8), (9, .int x9), (10, .int x10), (12, .int x12)] [.int t0, .int t1] := by
        intro t0 t1 x3 x8 x9 x10 x12 x h
        refine z_ior X dL_gone_316 ?_
        refine z_istore X [(6, .int (t1 ||| t0)), (1, .ref (ax 0)), (2, .ref q_bl), (3, .int x3), (8, .int x8), (9, .int x9), (10, .int x10), (12, .int x12)] dL_gone_317 (by decide) rfl ?_
        refine z_iload X 7 dL_gone_319 rfl ?_
        refine z_istore X [(7, .int x12), (6, .int (t1 ||| t0)), (1, .ref (ax 0)), (2, .ref q_bl), (3, .int x3), (8, .int x8), (9, .int x9), (10, .int x10), (12, .int x12)] dL_gone_321 (by decide) rfl ?_
        refine z_goto X 153 dL_gone_323 (by decide) ?_
        refine z_sub (lv' := [(1, .ref (ax 0)), (2, .ref q_bl), (3, .int x3), (6, .int (t1 ||| t0)), (7, .int x12), (8, .int x8), (9, .int x9), (10, .int x10)]) [2, 3, 4, 1, 0, 5, 6, 7] rfl ?_
        exact ih153 x3 (t1 ||| t0) x12 x8 x9 x10 x _ _ (by omega) (by omega) h
      have H298 : ∀ (t0 : Int32) (t1 : Int32) (x3 : Int32) (x6 : Int32) (x8 : Int32) (x10 : Int32) (x12 : Int32) (x : XVal), J_L_gone_298 ev.L ev.xs a_bl (L_L_gone_153 ev.L ev.xs a_bl n153) t0 t1 x3 x6 x8 x10 x12 x = some o → Z p l e { frames := 10, cells := 1031, slots := 6940, locals := 188 } s m args below meth c Q 15 (c153 + 50) (s153 + 358) (IW D A s ([(q_bl, .inl (g 3, 64, .inl a_bl))] ++ OW g ax ad x)) 298 [(1, .ref (ax 0)), (2, .ref q_bl), (3, .int x3), (6, .int x6), (8, .int x8), (10, .int x10), (12, .int x12)] [.int t0, .int t1] := by
        intro t0 t1 x3 x6 x8 x10 x12 x h
        refine z_iadd X dL_gone_298 ?_
        refine z_istore X [(9, .int (t1 + t0)), (1, .ref (ax 0)), (2, .ref q_bl), (3, .int x3), (6, .int x6), (8, .int x8), (10, .int x10), (12, .int x12)] dL_gone_299 (by decide) rfl ?_
        refine z_iload X 4 dL_gone_301 rfl ?_
        refine z_iload X 6 dL_gone_303 rfl ?_
        refine z_if_eq X 315 dL_gone_305 (by decide) h (fun _ h => ?_) (fun _ h => ?_)
        · refine z_iconst X (0 : Int32) dL_gone_315 (by decide) ?_
          refine z_widen (k := (c153 + 50)) (n := (s153 + 358)) (by first | exact Nat.le_of_ble_eq_true rfl | omega) (by first | exact Nat.le_of_ble_eq_true rfl | omega) ?_
          refine z_sub (lv' := [(1, .ref (ax 0)), (2, .ref q_bl), (3, .int x3), (8, .int x8), (9, .int (t1 + t0)), (10, .int x10), (12, .int x12)]) [1, 2, 3, 5, 0, 6, 7] rfl ?_
          exact H316 (0 : Int32) x6 x3 x8 (t1 + t0) x10 x12 x h
        · refine z_iconst X (1 : Int32) dL_gone_308 (by decide) ?_
          refine z_iload X 7 dL_gone_309 rfl ?_
          refine z_ishl X dL_gone_311 ?_
          refine z_goto X 316 dL_gone_312 (by decide) ?_
          refine z_widen (k := (c153 + 50)) (n := (s153 + 358)) (by first | exact Nat.le_of_ble_eq_true rfl | omega) (by first | exact Nat.le_of_ble_eq_true rfl | omega) ?_
          refine z_sub (lv' := [(1, .ref (ax 0)), (2, .ref q_bl), (3, .int x3), (8, .int x8), (9, .int (t1 + t0)), (10, .int x10), (12, .int x12)]) [1, 2, 3, 5, 0, 6, 7] rfl ?_
          exact H316 ((1 : Int32) <<< (x12 &&& 31)) x6 x3 x8 (t1 + t0) x10 x12 x h
      have H275 : ∀ (q_n182 : Nat) (t0 : Int32) (x3 : Int32) (x6 : Int32) (x8 : Int32) (x9 : Int32) (x12 : Int32) (x : XVal) (a_n182 : Nat → Int32), J_L_gone_275 ev.L ev.xs a_bl (L_L_gone_153 ev.L ev.xs a_bl n153) t0 x3 x6 x8 x9 x12 x a_n182 = some o → Z p l e { frames := 10, cells := 1031, slots := 6940, locals := 188 } s m args below meth c Q 15 (c153 + 48) (s153 + 346) (IW D A s ([(q_bl, .inl (g 3, 64, .inl a_bl)), (q_n182, .inl (g 0, 64, .inl a_n182))] ++ OW g ax ad x)) 275 [(1, .ref (ax 0)), (2, .ref q_bl), (3, .int x3), (6, .int x6), (8, .int x8), (9, .int x9), (11, .ref q_n182), (12, .int x12)] [.int t0] := by
        intro q_n182 t0 x3 x6 x8 x9 x12 x a_n182 h
        refine z_istore X [(10, .int t0), (1, .ref (ax 0)), (2, .ref q_bl), (3, .int x3), (6, .int x6), (8, .int x8), (9, .int x9), (11, .ref q_n182), (12, .int x12)] dL_gone_275 (by decide) rfl ?_
        refine z_iload X 6 dL_gone_277 rfl ?_
        refine z_iload X 0 dL_gone_279 rfl ?_
        refine z_if_eq X 297 dL_gone_281 (by decide) h (fun _ h => ?_) (fun _ h => ?_)
        · refine z_iconst X (0 : Int32) dL_gone_297 (by decide) ?_
          refine z_drop (ws' := ([(q_bl, .inl (g 3, 64, .inl a_bl))] ++ OW g ax ad x)) (wr := [(q_n182, .inl (g 0, 64, .inl a_n182))]) (pm_drop (perm_of (n := 2) (E := [(q_bl, .inl (g 3, 64, .inl a_bl)), (q_n182, .inl (g 0, 64, .inl a_n182))]) (wc := [(q_bl, .inl (g 3, 64, .inl a_bl))]) (wr := [(q_n182, .inl (g 0, 64, .inl a_n182))]) [0] [1] rfl rfl rfl (by decide +kernel))) ?_
          refine z_widen (k := (c153 + 50)) (n := (s153 + 358)) (by first | exact Nat.le_of_ble_eq_true rfl | omega) (by first | exact Nat.le_of_ble_eq_true rfl | omega) ?_
          refine z_sub (lv' := [(1, .ref (ax 0)), (2, .ref q_bl), (3, .int x3), (6, .int x6), (8, .int x8), (10, .int t0), (12, .int x12)]) [1, 2, 3, 4, 5, 0, 8] rfl ?_
          exact H298 (0 : Int32) x9 x3 x6 x8 t0 x12 x h
        · refine z_aload X 7 dL_gone_284 rfl ?_
          refine z_aload_n X 1 dL_gone_286 rfl rfl ?_
          refine z_iload X 8 dL_gone_287 rfl ?_
          refine z_iconst X (0 : Int32) dL_gone_289 (by decide) ?_
          obtain ⟨o48, e49, h⟩ := bnd_p h
          have f50 := bk_appP (X := OW g ax ad x) (X' := OW g ax ad x) (perm_of (n := 2) (E := [(q_bl, .inl (g 3, 64, .inl a_bl)), (q_n182, .inl (g 0, 64, .inl a_n182))]) (wc := []) (wr := [(q_bl, .inl (g 3, 64, .inl a_bl)), (q_n182, .inl (g 0, 64, .inl a_n182))]) [] [0, 1] rfl rfl rfl (by decide +kernel)) (perm_of (n := 2) (E := [(q_bl, .inl (g 3, 64, .inl a_bl)), (q_n182, .inl (g 0, 64, .inl a_n182))]) (wc := []) (wr := [(q_bl, .inl (g 3, 64, .inl a_bl)), (q_n182, .inl (g 0, 64, .inl a_n182))]) [] [0, 1] rfl rfl rfl (by decide +kernel)) rfl OW_fst
          refine z_gSH (rest := [.ref q_n182, .int x9]) (ws' := ([(q_bl, .inl (g 3, 64, .inl a_bl)), (q_n182, .inl (g 0, 64, .inl a_n182))] ++ OW g ax ad x)) X (KF_ok ev) (kc_of (KF_ok ev) (fun _ _ _ q => q) hK hA f50.1) hA k_L_of (c_L_of l hfl ev D g ad ax x12 (0 : Int32) x o48 e49) ql_L_L_of dL_gone_290 f50.1 f50.2 rfl rfl ⟨Nat.le_of_ble_eq_true rfl, Nat.le_of_ble_eq_true rfl, rfl, rfl, (Nat.le_trans (m := 1031) (by first | exact Nat.le_of_ble_eq_true rfl | omega) (Nat.le_of_ble_eq_true rfl)), (Nat.le_trans (m := 6940) (by first | exact Nat.le_of_ble_eq_true rfl | omega) (Nat.le_of_ble_eq_true rfl))⟩ (Nat.le_of_ble_eq_true rfl) ?_
          refine z_iald (q0 := 1) X IW_P dL_gone_293 rfl h (fun h => ?_)
          refine z_goto X 298 dL_gone_294 (by decide) ?_
          refine z_drop (ws' := ([(q_bl, .inl (g 3, 64, .inl a_bl))] ++ OW g ax ad x)) (wr := [(q_n182, .inl (g 0, 64, .inl a_n182))]) (pm_drop (perm_of (n := 2) (E := [(q_bl, .inl (g 3, 64, .inl a_bl)), (q_n182, .inl (g 0, 64, .inl a_n182))]) (wc := [(q_bl, .inl (g 3, 64, .inl a_bl))]) (wr := [(q_n182, .inl (g 0, 64, .inl a_n182))]) [0] [1] rfl rfl rfl (by decide +kernel))) ?_
          refine z_widen (k := (c153 + 50)) (n := (s153 + 358)) (by first | exact Nat.le_of_ble_eq_true rfl | omega) (by first | exact Nat.le_of_ble_eq_true rfl | omega) ?_
          refine z_sub (lv' := [(1, .ref (ax 0)), (2, .ref q_bl), (3, .int x3), (6, .int x6), (8, .int x8), (10, .int t0), (12, .int x12)]) [1, 2, 3, 4, 5, 0, 8] rfl ?_
          exact H298 (a_n182 o48.toNatClampNeg) x9 x3 x6 x8 t0 x12 x h
      have H195 : ∀ (n : Nat) (q_n182 : Nat) (x3 : Int32) (x6 : Int32) (x8 : Int32) (x9 : Int32) (x12 : Int32) (x13 : Int32) (x : XVal) (a_n182 : Nat → Int32) (c195 s195 : Nat), c195 + 4 * n ≤ (c153 + 48) → s195 + 24 * n ≤ (s153 + 346) → L_L_gone_195 ev.L ev.xs a_bl (L_L_gone_153 ev.L ev.xs a_bl n153) n x3 x6 x8 x9 x12 x13 x a_n182 = some o → Z p l e { frames := 10, cells := 1031, slots := 6940, locals := 188 } s m args below meth c Q 15 c195 s195 (IW D A s ([(q_bl, .inl (g 3, 64, .inl a_bl)), (q_n182, .inl (g 0, 64, .inl a_n182))] ++ OW g ax ad x)) 195 [(1, .ref (ax 0)), (2, .ref q_bl), (3, .int x3), (6, .int x6), (8, .int x8), (9, .int x9), (11, .ref q_n182), (12, .int x12), (13, .int x13)] [] := by
        intro n
        induction n with
        | zero => intro q_n182 x3 x6 x8 x9 x12 x13 x a_n182 c195 s195 _ _ h; cases h
        | succ n195 ih195 =>
          intro q_n182 x3 x6 x8 x9 x12 x13 x a_n182 c195 s195 hc195 hs195 h
          have H257 : ∀ (q_n182 : Nat) (t0 : Int32) (x3 : Int32) (x6 : Int32) (x8 : Int32) (x9 : Int32) (x13 : Int32) (x : XVal) (a_n182 : Nat → Int32), J_L_gone_257 ev.L ev.xs a_bl (L_L_gone_153 ev.L ev.xs a_bl n153) (L_L_gone_195 ev.L ev.xs a_bl (L_L_gone_153 ev.L ev.xs a_bl n153) n195) t0 x3 x6 x8 x9 x13 x a_n182 = some o → Z p l e { frames := 10, cells := 1031, slots := 6940, locals := 188 } s m args below meth c Q 15 (c195 + 4) (s195 + 24) (IW D A s ([(q_bl, .inl (g 3, 64, .inl a_bl)), (q_n182, .inl (g 0, 64, .inl a_n182))] ++ OW g ax ad x)) 257 [(1, .ref (ax 0)), (2, .ref q_bl), (3, .int x3), (6, .int x6), (8, .int x8), (9, .int x9), (11, .ref q_n182), (13, .int x13)] [.int t0] := by
            intro q_n182 t0 x3 x6 x8 x9 x13 x a_n182 h
            refine z_istore X [(12, .int t0), (1, .ref (ax 0)), (2, .ref q_bl), (3, .int x3), (6, .int x6), (8, .int x8), (9, .int x9), (11, .ref q_n182), (13, .int x13)] dL_gone_257 (by decide) rfl ?_
            refine z_iinc X 8 [(13, .int (x13 + (-1))), (12, .int t0), (1, .ref (ax 0)), (2, .ref q_bl), (3, .int x3), (6, .int x6), (8, .int x8), (9, .int x9), (11, .ref q_n182)] dL_gone_259 rfl rfl (by decide) rfl ?_
            refine z_goto X 195 dL_gone_262 (by decide) ?_
            refine z_sub (lv' := [(1, .ref (ax 0)), (2, .ref q_bl), (3, .int x3), (6, .int x6), (8, .int x8), (9, .int x9), (11, .ref q_n182), (12, .int t0), (13, .int (x13 + (-1)))]) [2, 3, 4, 5, 6, 7, 8, 1, 0] rfl ?_
            exact ih195 q_n182 x3 x6 x8 x9 t0 (x13 + (-1)) x a_n182 _ _ (by omega) (by omega) h
          have H255 : ∀ (q_n182 : Nat) (x3 : Int32) (x6 : Int32) (x8 : Int32) (x9 : Int32) (x12 : Int32) (x13 : Int32) (x : XVal) (a_n182 : Nat → Int32), J_L_gone_255 ev.L ev.xs a_bl (L_L_gone_153 ev.L ev.xs a_bl n153) (L_L_gone_195 ev.L ev.xs a_bl (L_L_gone_153 ev.L ev.xs a_bl n153) n195) x3 x6 x8 x9 x12 x13 x a_n182 = some o → Z p l e { frames := 10, cells := 1031, slots := 6940, locals := 188 } s m args below meth c Q 15 (c195 + 4) (s195 + 24) (IW D A s ([(q_bl, .inl (g 3, 64, .inl a_bl)), (q_n182, .inl (g 0, 64, .inl a_n182))] ++ OW g ax ad x)) 255 [(1, .ref (ax 0)), (2, .ref q_bl), (3, .int x3), (6, .int x6), (8, .int x8), (9, .int x9), (11, .ref q_n182), (12, .int x12), (13, .int x13)] [] := by
            intro q_n182 x3 x6 x8 x9 x12 x13 x a_n182 h
            refine z_iload X 7 dL_gone_255 rfl ?_
            refine z_widen (k := (c195 + 4)) (n := (s195 + 24)) (by first | exact Nat.le_of_ble_eq_true rfl | omega) (by first | exact Nat.le_of_ble_eq_true rfl | omega) ?_
            refine z_sub (lv' := [(1, .ref (ax 0)), (2, .ref q_bl), (3, .int x3), (6, .int x6), (8, .int x8), (9, .int x9), (11, .ref q_n182), (13, .int x13)]) [0, 1, 2, 3, 4, 5, 6, 8] rfl ?_
            exact H257 q_n182 x12 x3 x6 x8 x9 x13 x a_n182 h
          have H250 : ∀ (q_n182 : Nat) (x3 : Int32) (x6 : Int32) (x8 : Int32) (x9 : Int32) (x13 : Int32) (x : XVal) (a_n182 : Nat → Int32), J_L_gone_250 ev.L ev.xs a_bl (L_L_gone_153 ev.L ev.xs a_bl n153) (L_L_gone_195 ev.L ev.xs a_bl (L_L_gone_153 ev.L ev.xs a_bl n153) n195) x3 x6 x8 x9 x13 x a_n182 = some o → Z p l e { frames := 10, cells := 1031, slots := 6940, locals := 188 } s m args below meth c Q 15 (c195 + 4) (s195 + 24) (IW D A s ([(q_bl, .inl (g 3, 64, .inl a_bl)), (q_n182, .inl (g 0, 64, .inl a_n182))] ++ OW g ax ad x)) 250 [(1, .ref (ax 0)), (2, .ref q_bl), (3, .int x3), (6, .int x6), (8, .int x8), (9, .int x9), (11, .ref q_n182), (13, .int x13)] [] := by
            intro q_n182 x3 x6 x8 x9 x13 x a_n182 h
            refine z_iload X 7 dL_gone_250 rfl ?_
            refine z_goto X 257 dL_gone_252 (by decide) ?_
            refine z_widen (k := (c195 + 4)) (n := (s195 + 24)) (by first | exact Nat.le_of_ble_eq_true rfl | omega) (by first | exact Nat.le_of_ble_eq_true rfl | omega) ?_
            exact H257 q_n182 x13 x3 x6 x8 x9 x13 x a_n182 h
          refine z_iload X 8 dL_gone_195 rfl ?_
          refine z_if_lt X 265 dL_gone_197 (by decide) h (fun _ h => ?_) (fun _ h => ?_)
          · refine z_widen (k := (c153 + 48)) (n := (s153 + 346)) (by omega) (by omega) ?_
            refine z_iload X 7 dL_gone_265 rfl ?_
            refine z_if_lt X 274 dL_gone_267 (by decide) h (fun _ h => ?_) (fun _ h => ?_)
            · refine z_iconst X (0 : Int32) dL_gone_274 (by decide) ?_
              refine z_widen (k := (c153 + 48)) (n := (s153 + 346)) (by first | exact Nat.le_of_ble_eq_true rfl | omega) (by first | exact Nat.le_of_ble_eq_true rfl | omega) ?_
              refine z_sub (lv' := [(1, .ref (ax 0)), (2, .ref q_bl), (3, .int x3), (6, .int x6), (8, .int x8), (9, .int x9), (11, .ref q_n182), (12, .int x12)]) [0, 1, 2, 3, 4, 5, 6, 7] rfl ?_
              exact H275 q_n182 (0 : Int32) x3 x6 x8 x9 x12 x a_n182 h
            · refine z_iconst X (1 : Int32) dL_gone_270 (by decide) ?_
              refine z_goto X 275 dL_gone_271 (by decide) ?_
              refine z_widen (k := (c153 + 48)) (n := (s153 + 346)) (by first | exact Nat.le_of_ble_eq_true rfl | omega) (by first | exact Nat.le_of_ble_eq_true rfl | omega) ?_
              refine z_sub (lv' := [(1, .ref (ax 0)), (2, .ref q_bl), (3, .int x3), (6, .int x6), (8, .int x8), (9, .int x9), (11, .ref q_n182), (12, .int x12)]) [0, 1, 2, 3, 4, 5, 6, 7] rfl ?_
              exact H275 q_n182 (1 : Int32) x3 x6 x8 x9 x12 x a_n182 h
          · refine z_aload X 6 dL_gone_200 rfl ?_
            refine z_aload_n X 0 dL_gone_202 rfl rfl ?_
            refine z_iload X 8 dL_gone_203 rfl ?_
            refine z_iconst X (0 : Int32) dL_gone_205 (by decide) ?_
            obtain ⟨o51, e52, h⟩ := bnd_p h
            have f53 := bk_appP (X := OW g ax ad x) (X' := OW g ax ad x) (perm_of (n := 2) (E := [(q_bl, .inl (g 3, 64, .inl a_bl)), (q_n182, .inl (g 0, 64, .inl a_n182))]) (wc := []) (wr := [(q_bl, .inl (g 3, 64, .inl a_bl)), (q_n182, .inl (g 0, 64, .inl a_n182))]) [] [0, 1] rfl rfl rfl (by decide +kernel)) (perm_of (n := 2) (E := [(q_bl, .inl (g 3, 64, .inl a_bl)), (q_n182, .inl (g 0, 64, .inl a_n182))]) (wc := []) (wr := [(q_bl, .inl (g 3, 64, .inl a_bl)), (q_n182, .inl (g 0, 64, .inl a_n182))]) [] [0, 1] rfl rfl rfl (by decide +kernel)) rfl OW_fst
            refine z_gSH (rest := [.ref q_n182]) (ws' := ([(q_bl, .inl (g 3, 64, .inl a_bl)), (q_n182, .inl (g 0, 64, .inl a_n182))] ++ OW g ax ad x)) X (KF_ok ev) (kc_of (KF_ok ev) (fun _ _ _ q => q) hK hA f53.1) hA k_L_of (c_L_of l hfl ev D g ad ax x13 (0 : Int32) x o51 e52) ql_L_L_of dL_gone_206 f53.1 f53.2 rfl rfl ⟨Nat.le_of_ble_eq_true rfl, Nat.le_of_ble_eq_true rfl, rfl, rfl, (Nat.le_trans (m := 1031) (by first | exact Nat.le_of_ble_eq_true rfl | omega) (Nat.le_of_ble_eq_true rfl)), (Nat.le_trans (m := 6940) (by first | exact Nat.le_of_ble_eq_true rfl | omega) (Nat.le_of_ble_eq_true rfl))⟩ (Nat.le_of_ble_eq_true rfl) ?_
            refine z_iald (q0 := 1) X IW_P dL_gone_209 rfl h (fun h => ?_)
            refine z_istore X [(14, .int (a_n182 o51.toNatClampNeg)), (1, .ref (ax 0)), (2, .ref q_bl), (3, .int x3), (6, .int x6), (8, .int x8), (9, .int x9), (11, .ref q_n182), (12, .int x12), (13, .int x13)] dL_gone_210 (by decide) rfl ?_
            refine z_iload X 4 dL_gone_212 rfl ?_
            refine z_iload X 9 dL_gone_214 rfl ?_
            refine z_ishr X dL_gone_216 ?_
            refine z_iconst X (1 : Int32) dL_gone_217 (by decide) ?_
            refine z_iand X dL_gone_218 ?_
            refine z_if_ne X 255 dL_gone_219 (by decide) h (fun _ h => ?_) (fun _ h => ?_)
            · refine z_iload X 0 dL_gone_222 rfl ?_
              refine z_sipush X (1000 : Int32) dL_gone_224 (by decide) ?_
              refine z_icmp_ge X 255 dL_gone_227 (by decide) h (fun _ h => ?_) (fun _ h => ?_)
              · refine z_widen (k := (c195 + 4)) (n := (s195 + 24)) (by first | exact Nat.le_of_ble_eq_true rfl | omega) (by first | exact Nat.le_of_ble_eq_true rfl | omega) ?_
                refine z_sub (lv' := [(1, .ref (ax 0)), (2, .ref q_bl), (3, .int x3), (6, .int x6), (8, .int x8), (9, .int x9), (11, .ref q_n182), (12, .int x12), (13, .int x13)]) [1, 2, 3, 4, 5, 6, 7, 8, 9] rfl ?_
                exact H255 q_n182 x3 x6 x8 x9 x12 x13 x a_n182 h
              · refine z_iload X 8 dL_gone_230 rfl ?_
                refine z_if_lt X 250 dL_gone_232 (by decide) h (fun _ h => ?_) (fun _ h => ?_)
                · refine z_widen (k := (c195 + 4)) (n := (s195 + 24)) (by first | exact Nat.le_of_ble_eq_true rfl | omega) (by first | exact Nat.le_of_ble_eq_true rfl | omega) ?_
                  refine z_sub (lv' := [(1, .ref (ax 0)), (2, .ref q_bl), (3, .int x3), (6, .int x6), (8, .int x8), (9, .int x9), (11, .ref q_n182), (13, .int x13)]) [1, 2, 3, 4, 5, 6, 7, 9] rfl ?_
                  exact H250 q_n182 x3 x6 x8 x9 x13 x a_n182 h
                · refine z_iload X 0 dL_gone_235 rfl ?_
                  refine z_aload X 7 dL_gone_237 rfl ?_
                  refine z_aload_n X 1 dL_gone_239 rfl rfl ?_
                  refine z_iload X 8 dL_gone_240 rfl ?_
                  refine z_iconst X (0 : Int32) dL_gone_242 (by decide) ?_
                  obtain ⟨o54, e55, h⟩ := bnd_p h
                  have f56 := bk_appP (X := OW g ax ad x) (X' := OW g ax ad x) (perm_of (n := 2) (E := [(q_bl, .inl (g 3, 64, .inl a_bl)), (q_n182, .inl (g 0, 64, .inl a_n182))]) (wc := []) (wr := [(q_bl, .inl (g 3, 64, .inl a_bl)), (q_n182, .inl (g 0, 64, .inl a_n182))]) [] [0, 1] rfl rfl rfl (by decide +kernel)) (perm_of (n := 2) (E := [(q_bl, .inl (g 3, 64, .inl a_bl)), (q_n182, .inl (g 0, 64, .inl a_n182))]) (wc := []) (wr := [(q_bl, .inl (g 3, 64, .inl a_bl)), (q_n182, .inl (g 0, 64, .inl a_n182))]) [] [0, 1] rfl rfl rfl (by decide +kernel)) rfl OW_fst
                  refine z_gSH (rest := [.ref q_n182, .int (a_n182 o51.toNatClampNeg)]) (ws' := ([(q_bl, .inl (g 3, 64, .inl a_bl)), (q_n182, .inl (g 0, 64, .inl a_n182))] ++ OW g ax ad x)) X (KF_ok ev) (kc_of (KF_ok ev) (fun _ _ _ q => q) hK hA f56.1) hA k_L_of (c_L_of l hfl ev D g ad ax x12 (0 : Int32) x o54 e55) ql_L_L_of dL_gone_243 f56.1 f56.2 rfl rfl ⟨Nat.le_of_ble_eq_true rfl, Nat.le_of_ble_eq_true rfl, rfl, rfl, (Nat.le_trans (m := 1031) (by first | exact Nat.le_of_ble_eq_true rfl | omega) (Nat.le_of_ble_eq_true rfl)), (Nat.le_trans (m := 6940) (by first | exact Nat.le_of_ble_eq_true rfl | omega) (Nat.le_of_ble_eq_true rfl))⟩ (Nat.le_of_ble_eq_true rfl) ?_
                  refine z_iald (q0 := 1) X IW_P dL_gone_246 rfl h (fun h => ?_)
                  refine z_icmp_gt X 255 dL_gone_247 (by decide) h (fun _ h => ?_) (fun _ h => ?_)
                  · refine z_widen (k := (c195 + 4)) (n := (s195 + 24)) (by first | exact Nat.le_of_ble_eq_true rfl | omega) (by first | exact Nat.le_of_ble_eq_true rfl | omega) ?_
                    refine z_sub (lv' := [(1, .ref (ax 0)), (2, .ref q_bl), (3, .int x3), (6, .int x6), (8, .int x8), (9, .int x9), (11, .ref q_n182), (12, .int x12), (13, .int x13)]) [1, 2, 3, 4, 5, 6, 7, 8, 9] rfl ?_
                    exact H255 q_n182 x3 x6 x8 x9 x12 x13 x a_n182 h
                  · refine z_widen (k := (c195 + 4)) (n := (s195 + 24)) (by first | exact Nat.le_of_ble_eq_true rfl | omega) (by first | exact Nat.le_of_ble_eq_true rfl | omega) ?_
                    refine z_sub (lv' := [(1, .ref (ax 0)), (2, .ref q_bl), (3, .int x3), (6, .int x6), (8, .int x8), (9, .int x9), (11, .ref q_n182), (13, .int x13)]) [1, 2, 3, 4, 5, 6, 7, 9] rfl ?_
                    exact H250 q_n182 x3 x6 x8 x9 x13 x a_n182 h
            · refine z_widen (k := (c195 + 4)) (n := (s195 + 24)) (by first | exact Nat.le_of_ble_eq_true rfl | omega) (by first | exact Nat.le_of_ble_eq_true rfl | omega) ?_
              refine z_sub (lv' := [(1, .ref (ax 0)), (2, .ref q_bl), (3, .int x3), (6, .int x6), (8, .int x8), (9, .int x9), (11, .ref q_n182), (12, .int x12), (13, .int x13)]) [1, 2, 3, 4, 5, 6, 7, 8, 9] rfl ?_
              exact H255 q_n182 x3 x6 x8 x9 x12 x13 x a_n182 h
      refine z_iload X 7 dL_gone_153 rfl ?_
      refine z_if_eq X 326 dL_gone_155 (by decide) h (fun _ h => ?_) (fun _ h => ?_)
      · refine z_widen (k := 927) (n := 6316) (by omega) (by omega) ?_
        refine z_iconst X ((-1) : Int32) dL_gone_326 (by decide) ?_
        refine z_istore X [(11, .int ((-1) : Int32)), (1, .ref (ax 0)), (2, .ref q_bl), (3, .int x3), (6, .int x6), (7, .int x7), (8, .int x8), (9, .int x9), (10, .int x10)] dL_gone_327 (by decide) rfl ?_
        refine z_iconst X (0 : Int32) dL_gone_329 (by decide) ?_
        refine z_istore X [(12, .int (0 : Int32)), (11, .int ((-1) : Int32)), (1, .ref (ax 0)), (2, .ref q_bl), (3, .int x3), (6, .int x6), (7, .int x7), (8, .int x8), (9, .int x9), (10, .int x10)] dL_gone_330 (by decide) rfl ?_
        refine z_sub (lv' := [(1, .ref (ax 0)), (3, .int x3), (8, .int x8), (9, .int x9), (11, .int ((-1) : Int32)), (12, .int (0 : Int32))]) [2, 4, 7, 8, 1, 0] rfl ?_
        exact H332 11 x3 x8 x9 ((-1) : Int32) (0 : Int32) x _ _ (by first | exact Nat.le_of_ble_eq_true rfl | omega) (by first | exact Nat.le_of_ble_eq_true rfl | omega) h
      · refine z_aload_n X 0 dL_gone_158 rfl rfl ?_
        refine z_iload X 5 dL_gone_159 rfl ?_
        obtain ⟨o39, e40, h⟩ := bnd_p h
        have f41 := bk_appP (X := OW g ax ad x) (X' := OW g ax ad o39.2) (perm_of (n := 1) (E := [(q_bl, .inl (g 3, 64, .inl a_bl))]) (wc := []) (wr := [(q_bl, .inl (g 3, 64, .inl a_bl))]) [] [0] rfl rfl rfl (by decide +kernel)) (perm_of (n := 1) (E := [(q_bl, .inl (g 3, 64, .inl a_bl))]) (wc := []) (wr := [(q_bl, .inl (g 3, 64, .inl a_bl))]) [] [0] rfl rfl rfl (by decide +kernel)) rfl OW_fst
        refine z_gSH (rest := []) (ws' := ([(q_bl, .inl (g 3, 64, .inl a_bl))] ++ OW g ax ad o39.2)) X (KF_ok ev) (kc_of (KF_ok ev) (fun _ _ _ q => q) hK hA f41.1) hA k_L_round (c_L_round l hfl ev D g ad ax x8 x o39 e40) ql_L_L_round dL_gone_161 f41.1 f41.2 rfl rfl ⟨Nat.le_of_ble_eq_true rfl, Nat.le_of_ble_eq_true rfl, rfl, rfl, (Nat.le_trans (m := 1031) (by first | exact Nat.le_of_ble_eq_true rfl | omega) (Nat.le_of_ble_eq_true rfl)), (Nat.le_trans (m := 6940) (by first | exact Nat.le_of_ble_eq_true rfl | omega) (Nat.le_of_ble_eq_true rfl))⟩ (Nat.le_of_ble_eq_true rfl) ?_
        refine z_iload X 4 dL_gone_164 rfl ?_
        refine z_icmp_eq X 171 dL_gone_166 (by decide) h (fun _ h => ?_) (fun _ h => ?_)
        · refine z_iinc X 5 [(8, .int (x8 + 1)), (1, .ref (ax 0)), (2, .ref q_bl), (3, .int x3), (6, .int x6), (7, .int x7), (9, .int x9), (10, .int x10)] dL_gone_171 rfl rfl (by decide) rfl ?_
          refine z_aload_n X 1 dL_gone_174 rfl rfl ?_
          refine z_iload X 5 dL_gone_175 rfl ?_
          refine z_iconst X (0 : Int32) dL_gone_177 (by decide) ?_
          obtain ⟨o42, e43, h⟩ := bnd_p h
          have f44 := bk_appP (X := OW g ax ad o39.2) (X' := OW g ax ad o39.2) (perm_of (n := 1) (E := [(q_bl, .inl (g 3, 64, .inl a_bl))]) (wc := []) (wr := [(q_bl, .inl (g 3, 64, .inl a_bl))]) [] [0] rfl rfl rfl (by decide +kernel)) (perm_of (n := 1) (E := [(q_bl, .inl (g 3, 64, .inl a_bl))]) (wc := []) (wr := [(q_bl, .inl (g 3, 64, .inl a_bl))]) [] [0] rfl rfl rfl (by decide +kernel)) rfl OW_fst
          refine z_gSH (rest := []) (ws' := ([(q_bl, .inl (g 3, 64, .inl a_bl))] ++ OW g ax ad o39.2)) X (KF_ok ev) (kc_of (KF_ok ev) (fun _ _ _ q => q) hK hA f44.1) hA k_L_of (c_L_of l hfl ev D g ad ax x7 (0 : Int32) o39.2 o42 e43) ql_L_L_of dL_gone_178 f44.1 f44.2 rfl rfl ⟨Nat.le_of_ble_eq_true rfl, Nat.le_of_ble_eq_true rfl, rfl, rfl, (Nat.le_trans (m := 1031) (by first | exact Nat.le_of_ble_eq_true rfl | omega) (Nat.le_of_ble_eq_true rfl)), (Nat.le_trans (m := 6940) (by first | exact Nat.le_of_ble_eq_true rfl | omega) (Nat.le_of_ble_eq_true rfl))⟩ (Nat.le_of_ble_eq_true rfl) ?_
          refine z_aload_n X 2 dL_gone_181 rfl rfl ?_
          obtain ⟨o45, e46, h⟩ := bnd_p h
          refine z_oS (rest := []) (wr := ([] ++ OW g ax ad o39.2)) X (KF_ok ev) (kc_of (KF_ok ev) (fun _ _ _ q => q) hK hA (pm_bkc (wr := ([] ++ OW g ax ad o39.2)) (pm_cut (perm_of (n := 1) (E := [(q_bl, .inl (g 3, 64, .inl a_bl))]) (wc := [(q_bl, .inl (g 3, 64, .inl a_bl))]) (wr := []) [0] [] rfl rfl rfl (by decide +kernel))))) hA k_L_steps (c_L_steps l hfl ev D g q_bl o42 a_bl o45 e46) ql_L_L_steps dL_gone_182 (pm_cut (perm_of (n := 1) (E := [(q_bl, .inl (g 3, 64, .inl a_bl))]) (wc := [(q_bl, .inl (g 3, 64, .inl a_bl))]) (wr := []) [0] [] rfl rfl rfl (by decide +kernel))) rfl rfl ⟨Nat.le_of_ble_eq_true rfl, Nat.le_of_ble_eq_true rfl, rfl, rfl, (Nat.le_trans (m := 1031) (by first | exact Nat.le_of_ble_eq_true rfl | omega) (Nat.le_of_ble_eq_true rfl)), (Nat.le_trans (m := 6940) (by first | exact Nat.le_of_ble_eq_true rfl | omega) (Nat.le_of_ble_eq_true rfl))⟩ (Nat.le_of_ble_eq_true rfl) (fun q_n182 _ => ?_)
          refine z_perm (ws' := ([(q_n182, .inl (g 0, 64, .inl o45)), (q_bl, .inl (g 3, 64, .inl a_bl))] ++ OW g ax ad o39.2)) (pm_back (N := [(q_n182, .inl (g 0, 64, .inl o45))]) (perm_of (n := 1) (E := [(q_bl, .inl (g 3, 64, .inl a_bl))]) (wc := [(q_bl, .inl (g 3, 64, .inl a_bl))]) (wr := []) [0] [] rfl rfl rfl (by decide +kernel))) ?_
          refine z_astore X [(11, .ref q_n182), (8, .int (x8 + 1)), (1, .ref (ax 0)), (2, .ref q_bl), (3, .int x3), (6, .int x6), (7, .int x7), (9, .int x9), (10, .int x10)] dL_gone_185 (by decide) rfl ?_
          refine z_iconst X ((-1) : Int32) dL_gone_187 (by decide) ?_
          refine z_istore X [(12, .int ((-1) : Int32)), (11, .ref q_n182), (8, .int (x8 + 1)), (1, .ref (ax 0)), (2, .ref q_bl), (3, .int x3), (6, .int x6), (7, .int x7), (9, .int x9), (10, .int x10)] dL_gone_188 (by decide) rfl ?_
          refine z_iload_n X 5 dL_gone_190 rfl rfl ?_
          refine z_iconst X (1 : Int32) dL_gone_191 (by decide) ?_
          refine z_isub X dL_gone_192 ?_
          refine z_istore X [(13, .int (x3 - (1 : Int32))), (12, .int ((-1) : Int32)), (11, .ref q_n182), (8, .int (x8 + 1)), (1, .ref (ax 0)), (2, .ref q_bl), (3, .int x3), (6, .int x6), (7, .int x7), (9, .int x9), (10, .int x10)] dL_gone_193 (by decide) rfl ?_
          refine z_drop (ws' := ([(q_bl, .inl (g 3, 64, .inl a_bl)), (q_n182, .inl (g 0, 64, .inl o45))] ++ OW g ax ad o39.2)) (wr := []) (pm_drop (perm_of (n := 2) (E := [(q_n182, .inl (g 0, 64, .inl o45)), (q_bl, .inl (g 3, 64, .inl a_bl))]) (wc := [(q_bl, .inl (g 3, 64, .inl a_bl)), (q_n182, .inl (g 0, 64, .inl o45))]) (wr := []) [1, 0] [] rfl rfl rfl (by decide +kernel))) ?_
          refine z_sub (lv' := [(1, .ref (ax 0)), (2, .ref q_bl), (3, .int x3), (6, .int x6), (8, .int (x8 + 1)), (9, .int x9), (11, .ref q_n182), (12, .int ((-1) : Int32)), (13, .int (x3 - (1 : Int32)))]) [4, 5, 6, 7, 3, 9, 2, 1, 0] rfl ?_
          exact H195 11 q_n182 x3 x6 (x8 + 1) x9 ((-1) : Int32) (x3 - (1 : Int32)) o39.2 o45 _ _ (by first | exact Nat.le_of_ble_eq_true rfl | omega) (by first | exact Nat.le_of_ble_eq_true rfl | omega) h
        · cases h
  have H151 : ∀ (t0 : Int32) (x3 : Int32) (x6 : Int32) (x7 : Int32) (x8 : Int32) (x9 : Int32) (x : XVal), J_L_gone_151 ev.L ev.xs a_bl t0 x3 x6 x7 x8 x9 x = some o → Z p l e { frames := 10, cells := 1031, slots := 6940, locals := 188 } s m args below meth c Q 15 327 2020 (IW D A s ([(q_bl, .inl (g 3, 64, .inl a_bl))] ++ OW g ax ad x)) 151 [(1, .ref (ax 0)), (2, .ref q_bl), (3, .int x3), (6, .int x6), (7, .int x7), (8, .int x8), (9, .int x9)] [.int t0] := by
    intro t0 x3 x6 x7 x8 x9 x h
    refine z_istore X [(10, .int t0), (1, .ref (ax 0)), (2, .ref q_bl), (3, .int x3), (6, .int x6), (7, .int x7), (8, .int x8), (9, .int x9)] dL_gone_151 (by decide) rfl ?_
    refine z_sub (lv' := [(1, .ref (ax 0)), (2, .ref q_bl), (3, .int x3), (6, .int x6), (7, .int x7), (8, .int x8), (9, .int x9), (10, .int t0)]) [1, 2, 3, 4, 5, 6, 7, 0] rfl ?_
    exact H153 12 x3 x6 x7 x8 x9 t0 x _ _ (by first | exact Nat.le_of_ble_eq_true rfl | omega) (by first | exact Nat.le_of_ble_eq_true rfl | omega) h
  have H131 : ∀ (t0 : Int32) (x3 : Int32) (x : XVal), J_L_gone_131 ev.L ev.xs a_bl t0 x3 x = some o → Z p l e { frames := 10, cells := 1031, slots := 6940, locals := 188 } s m args below meth c Q 15 327 2020 (IW D A s ([(q_bl, .inl (g 3, 64, .inl a_bl))] ++ OW g ax ad x)) 131 [(1, .ref (ax 0)), (2, .ref q_bl), (3, .int x3)] [.int t0] := by
    intro t0 x3 x h
    refine z_istore X [(6, .int t0), (1, .ref (ax 0)), (2, .ref q_bl), (3, .int x3)] dL_gone_131 (by decide) rfl ?_
    refine z_iconst X (0 : Int32) dL_gone_133 (by decide) ?_
    refine z_istore X [(7, .int (0 : Int32)), (6, .int t0), (1, .ref (ax 0)), (2, .ref q_bl), (3, .int x3)] dL_gone_134 (by decide) rfl ?_
    refine z_iconst X (0 : Int32) dL_gone_136 (by decide) ?_
    refine z_istore X [(8, .int (0 : Int32)), (7, .int (0 : Int32)), (6, .int t0), (1, .ref (ax 0)), (2, .ref q_bl), (3, .int x3)] dL_gone_137 (by decide) rfl ?_
    refine z_iconst X (0 : Int32) dL_gone_139 (by decide) ?_
    refine z_istore X [(9, .int (0 : Int32)), (8, .int (0 : Int32)), (7, .int (0 : Int32)), (6, .int t0), (1, .ref (ax 0)), (2, .ref q_bl), (3, .int x3)] dL_gone_140 (by decide) rfl ?_
    refine z_iload_n X 6 dL_gone_142 rfl rfl ?_
    refine z_if_le X 150 dL_gone_143 (by decide) h (fun _ h => ?_) (fun _ h => ?_)
    · refine z_iconst X (0 : Int32) dL_gone_150 (by decide) ?_
      refine z_widen (k := 327) (n := 2020) (by first | exact Nat.le_of_ble_eq_true rfl | omega) (by first | exact Nat.le_of_ble_eq_true rfl | omega) ?_
      refine z_sub (lv' := [(1, .ref (ax 0)), (2, .ref q_bl), (3, .int x3), (6, .int t0), (7, .int (0 : Int32)), (8, .int (0 : Int32)), (9, .int (0 : Int32))]) [4, 5, 6, 3, 2, 1, 0] rfl ?_
      exact H151 (0 : Int32) x3 t0 (0 : Int32) (0 : Int32) (0 : Int32) x h
    · refine z_iconst X (1 : Int32) dL_gone_146 (by decide) ?_
      refine z_goto X 151 dL_gone_147 (by decide) ?_
      refine z_widen (k := 327) (n := 2020) (by first | exact Nat.le_of_ble_eq_true rfl | omega) (by first | exact Nat.le_of_ble_eq_true rfl | omega) ?_
      refine z_sub (lv' := [(1, .ref (ax 0)), (2, .ref q_bl), (3, .int x3), (6, .int t0), (7, .int (0 : Int32)), (8, .int (0 : Int32)), (9, .int (0 : Int32))]) [4, 5, 6, 3, 2, 1, 0] rfl ?_
      exact H151 (1 : Int32) x3 t0 (0 : Int32) (0 : Int32) (0 : Int32) x h
  have H30 : ∀ (n : Nat) (q_n22 : Nat) (x3 : Int32) (x4 : Int32) (x6 : Int32) (x : XVal) (a_n22 : Nat → Int32) (c30 s30 : Nat), c30 + 5 * n ≤ 327 → s30 + 30 * n ≤ 2020 → L_L_gone_30 ev.L ev.xs a_bl n x3 x4 x6 x a_n22 = some o → Z p l e { frames := 10, cells := 1031, slots := 6940, locals := 188 } s m args below meth c Q 15 c30 s30 (IW D A s ([(q_bl, .inl (g 3, 64, .inl a_bl)), (q_n22, .inl (g 0, 64, .inl a_n22))] ++ OW g ax ad x)) 30 [(1, .ref (ax 0)), (2, .ref q_bl), (3, .int x3), (4, .int x4), (5, .ref q_n22), (6, .int x6)] [] := by
    intro n
    induction n with
    | zero => intro q_n22 x3 x4 x6 x a_n22 c30 s30 _ _ h; cases h
    | succ n30 ih30 =>
      intro q_n22 x3 x4 x6 x a_n22 c30 s30 hc30 hs30 h
      have H58 : ∀ (q_n22 : Nat) (t0 : Int32) (x3 : Int32) (x4 : Int32) (x6 : Int32) (x : XVal) (a_n22 : Nat → Int32), J_L_gone_58 ev.L ev.xs a_bl (L_L_gone_30 ev.L ev.xs a_bl n30) t0 x3 x4 x6 x a_n22 = some o → Z p l e { frames := 10, cells := 1031, slots := 6940, locals := 188 } s m args below meth c Q 15 (c30 + 0) (s30 + 0) (IW D A s ([(q_bl, .inl (g 3, 64, .inl a_bl)), (q_n22, .inl (g 0, 64, .inl a_n22))] ++ OW g ax ad x)) 58 [(1, .ref (ax 0)), (2, .ref q_bl), (3, .int x3), (4, .int x4), (5, .ref q_n22), (6, .int x6)] [.int t0] := by
        intro q_n22 t0 x3 x4 x6 x a_n22 h
        refine z_istore X [(7, .int t0), (1, .ref (ax 0)), (2, .ref q_bl), (3, .int x3), (4, .int x4), (5, .ref q_n22), (6, .int x6)] dL_gone_58 (by decide) rfl ?_
        refine z_aload_n X 1 dL_gone_60 rfl rfl ?_
        refine z_iload X 4 dL_gone_61 rfl ?_
        refine z_iload X 6 dL_gone_63 rfl ?_
        obtain ⟨o57, e58, h⟩ := bnd_p h
        have f59 := bk_appP (X := OW g ax ad x) (X' := OW g ax ad x) (perm_of (n := 2) (E := [(q_bl, .inl (g 3, 64, .inl a_bl)), (q_n22, .inl (g 0, 64, .inl a_n22))]) (wc := []) (wr := [(q_bl, .inl (g 3, 64, .inl a_bl)), (q_n22, .inl (g 0, 64, .inl a_n22))]) [] [0, 1] rfl rfl rfl (by decide +kernel)) (perm_of (n := 2) (E := [(q_bl, .inl (g 3, 64, .inl a_bl)), (q_n22, .inl (g 0, 64, .inl a_n22))]) (wc := []) (wr := [(q_bl, .inl (g 3, 64, .inl a_bl)), (q_n22, .inl (g 0, 64, .inl a_n22))]) [] [0, 1] rfl rfl rfl (by decide +kernel)) rfl OW_fst
        refine z_gSH (rest := []) (ws' := ([(q_bl, .inl (g 3, 64, .inl a_bl)), (q_n22, .inl (g 0, 64, .inl a_n22))] ++ OW g ax ad x)) X (KF_ok ev) (kc_of (KF_ok ev) (fun _ _ _ q => q) hK hA f59.1) hA k_L_apart (c_L_apart l hfl ev D g ad ax x4 x6 x o57 e58) ql_L_L_apart dL_gone_65 f59.1 f59.2 rfl rfl ⟨Nat.le_of_ble_eq_true rfl, Nat.le_of_ble_eq_true rfl, rfl, rfl, (Nat.le_trans (m := 1031) (by first | exact Nat.le_of_ble_eq_true rfl | omega) (Nat.le_of_ble_eq_true rfl)), (Nat.le_trans (m := 6940) (by first | exact Nat.le_of_ble_eq_true rfl | omega) (Nat.le_of_ble_eq_true rfl))⟩ (Nat.le_of_ble_eq_true rfl) ?_
        refine z_iload X 4 dL_gone_68 rfl ?_
        refine z_iload X 6 dL_gone_70 rfl ?_
        obtain ⟨o60, e61, h⟩ := bnd_p h
        have f62 : bkc ([(q_bl, .inl (g 3, 64, .inl a_bl)), (q_n22, .inl (g 0, 64, .inl a_n22))] ++ OW g ax ad x) [] ∧ bk ([(q_bl, .inl (g 3, 64, .inl a_bl)), (q_n22, .inl (g 0, 64, .inl a_n22))] ++ OW g ax ad x) ([(q_bl, .inl (g 3, 64, .inl a_bl)), (q_n22, .inl (g 0, 64, .inl a_n22))] ++ OW g ax ad x) [] [] := ⟨bkc_nil, bk_nil⟩
        refine z_gS (rest := [.int o57]) (ws' := ([(q_bl, .inl (g 3, 64, .inl a_bl)), (q_n22, .inl (g 0, 64, .inl a_n22))] ++ OW g ax ad x)) X (KF_ok ev) (kc_of (KF_ok ev) (fun _ _ _ q => q) hK hA f62.1) hA k_L_far (c_L_far l hfl ev D g x4 x6 o60 e61) ql_L_L_far dL_gone_72 f62.1 f62.2 rfl rfl ⟨Nat.le_of_ble_eq_true rfl, Nat.le_of_ble_eq_true rfl, rfl, rfl, (Nat.le_trans (m := 1031) (by first | exact Nat.le_of_ble_eq_true rfl | omega) (Nat.le_of_ble_eq_true rfl)), (Nat.le_trans (m := 6940) (by first | exact Nat.le_of_ble_eq_true rfl | omega) (Nat.le_of_ble_eq_true rfl))⟩ (Nat.le_of_ble_eq_true rfl) ?_
        refine z_icmp_ne X 114 dL_gone_75 (by decide) h (fun _ h => ?_) (fun _ h => ?_)
        · refine z_aload_n X 1 dL_gone_78 rfl rfl ?_
          refine z_iload X 4 dL_gone_79 rfl ?_
          refine z_iload X 6 dL_gone_81 rfl ?_
          refine z_iconst X (0 : Int32) dL_gone_83 (by decide) ?_
          obtain ⟨o63, e64, h⟩ := bnd_p h
          have f65 := bk_appP (X := OW g ax ad x) (X' := OW g ax ad o63.2) (perm_of (n := 2) (E := [(q_bl, .inl (g 3, 64, .inl a_bl)), (q_n22, .inl (g 0, 64, .inl a_n22))]) (wc := []) (wr := [(q_bl, .inl (g 3, 64, .inl a_bl)), (q_n22, .inl (g 0, 64, .inl a_n22))]) [] [0, 1] rfl rfl rfl (by decide +kernel)) (perm_of (n := 2) (E := [(q_bl, .inl (g 3, 64, .inl a_bl)), (q_n22, .inl (g 0, 64, .inl a_n22))]) (wc := []) (wr := [(q_bl, .inl (g 3, 64, .inl a_bl)), (q_n22, .inl (g 0, 64, .inl a_n22))]) [] [0, 1] rfl rfl rfl (by decide +kernel)) rfl OW_fst
          refine z_gSH (rest := []) (ws' := ([(q_bl, .inl (g 3, 64, .inl a_bl)), (q_n22, .inl (g 0, 64, .inl a_n22))] ++ OW g ax ad o63.2)) X (KF_ok ev) (kc_of (KF_ok ev) (fun _ _ _ q => q) hK hA f65.1) hA k_L_way (c_L_way l hfl ev D g ad ax x4 x6 (0 : Int32) x o63 e64) ql_L_L_way dL_gone_84 f65.1 f65.2 rfl rfl ⟨Nat.le_of_ble_eq_true rfl, Nat.le_of_ble_eq_true rfl, rfl, rfl, (Nat.le_trans (m := 1031) (by first | exact Nat.le_of_ble_eq_true rfl | omega) (Nat.le_of_ble_eq_true rfl)), (Nat.le_trans (m := 6940) (by first | exact Nat.le_of_ble_eq_true rfl | omega) (Nat.le_of_ble_eq_true rfl))⟩ (Nat.le_of_ble_eq_true rfl) ?_
          refine z_iload X 0 dL_gone_87 rfl ?_
          refine z_icmp_ne X 114 dL_gone_89 (by decide) h (fun _ h => ?_) (fun _ h => ?_)
          · refine z_iload X 6 dL_gone_92 rfl ?_
            refine z_bipush X (9 : Int32) dL_gone_94 (by decide) ?_
            refine z_irem X dL_gone_96 (by decide) ?_
            refine z_if_ne X 116 dL_gone_97 (by decide) h (fun _ h => ?_) (fun _ h => ?_)
            · refine z_aload_n X 1 dL_gone_100 rfl rfl ?_
              refine z_iload X 4 dL_gone_101 rfl ?_
              refine z_iload X 6 dL_gone_103 rfl ?_
              refine z_iconst X (1 : Int32) dL_gone_105 (by decide) ?_
              obtain ⟨o66, e67, h⟩ := bnd_p h
              have f68 := bk_appP (X := OW g ax ad o63.2) (X' := OW g ax ad o66.2) (perm_of (n := 2) (E := [(q_bl, .inl (g 3, 64, .inl a_bl)), (q_n22, .inl (g 0, 64, .inl a_n22))]) (wc := []) (wr := [(q_bl, .inl (g 3, 64, .inl a_bl)), (q_n22, .inl (g 0, 64, .inl a_n22))]) [] [0, 1] rfl rfl rfl (by decide +kernel)) (perm_of (n := 2) (E := [(q_bl, .inl (g 3, 64, .inl a_bl)), (q_n22, .inl (g 0, 64, .inl a_n22))]) (wc := []) (wr := [(q_bl, .inl (g 3, 64, .inl a_bl)), (q_n22, .inl (g 0, 64, .inl a_n22))]) [] [0, 1] rfl rfl rfl (by decide +kernel)) rfl OW_fst
              refine z_gSH (rest := []) (ws' := ([(q_bl, .inl (g 3, 64, .inl a_bl)), (q_n22, .inl (g 0, 64, .inl a_n22))] ++ OW g ax ad o66.2)) X (KF_ok ev) (kc_of (KF_ok ev) (fun _ _ _ q => q) hK hA f68.1) hA k_L_way (c_L_way l hfl ev D g ad ax x4 x6 (1 : Int32) o63.2 o66 e67) ql_L_L_way dL_gone_106 f68.1 f68.2 rfl rfl ⟨Nat.le_of_ble_eq_true rfl, Nat.le_of_ble_eq_true rfl, rfl, rfl, (Nat.le_trans (m := 1031) (by first | exact Nat.le_of_ble_eq_true rfl | omega) (Nat.le_of_ble_eq_true rfl)), (Nat.le_trans (m := 6940) (by first | exact Nat.le_of_ble_eq_true rfl | omega) (Nat.le_of_ble_eq_true rfl))⟩ (Nat.le_of_ble_eq_true rfl) ?_
              refine z_iload X 0 dL_gone_109 rfl ?_
              refine z_icmp_eq X 116 dL_gone_111 (by decide) h (fun _ h => ?_) (fun _ h => ?_)
              · refine z_iinc X 6 [(6, .int (x6 + 1)), (7, .int t0), (1, .ref (ax 0)), (2, .ref q_bl), (3, .int x3), (4, .int x4), (5, .ref q_n22)] dL_gone_116 rfl rfl (by decide) rfl ?_
                refine z_goto X 30 dL_gone_119 (by decide) ?_
                refine z_sub (lv' := [(1, .ref (ax 0)), (2, .ref q_bl), (3, .int x3), (4, .int x4), (5, .ref q_n22), (6, .int (x6 + 1))]) [2, 3, 4, 5, 6, 0] rfl ?_
                exact ih30 q_n22 x3 x4 (x6 + 1) o66.2 a_n22 _ _ (by omega) (by omega) h
              · cases h
            · refine z_iinc X 6 [(6, .int (x6 + 1)), (7, .int t0), (1, .ref (ax 0)), (2, .ref q_bl), (3, .int x3), (4, .int x4), (5, .ref q_n22)] dL_gone_116 rfl rfl (by decide) rfl ?_
              refine z_goto X 30 dL_gone_119 (by decide) ?_
              refine z_sub (lv' := [(1, .ref (ax 0)), (2, .ref q_bl), (3, .int x3), (4, .int x4), (5, .ref q_n22), (6, .int (x6 + 1))]) [2, 3, 4, 5, 6, 0] rfl ?_
              exact ih30 q_n22 x3 x4 (x6 + 1) o63.2 a_n22 _ _ (by omega) (by omega) h
          · cases h
        · cases h
      refine z_iload X 5 dL_gone_30 rfl ?_
      refine z_bipush X (64 : Int32) dL_gone_32 (by decide) ?_
      refine z_icmp_ge X 122 dL_gone_34 (by decide) h (fun _ h => ?_) (fun _ h => ?_)
      · refine z_widen (k := 327) (n := 2020) (by omega) (by omega) ?_
        refine z_iload_n X 2 dL_gone_122 rfl rfl ?_
        refine z_if_le X 130 dL_gone_123 (by decide) h (fun _ h => ?_) (fun _ h => ?_)
        · refine z_iconst X (0 : Int32) dL_gone_130 (by decide) ?_
          refine z_drop (ws' := ([(q_bl, .inl (g 3, 64, .inl a_bl))] ++ OW g ax ad x)) (wr := [(q_n22, .inl (g 0, 64, .inl a_n22))]) (pm_drop (perm_of (n := 2) (E := [(q_bl, .inl (g 3, 64, .inl a_bl)), (q_n22, .inl (g 0, 64, .inl a_n22))]) (wc := [(q_bl, .inl (g 3, 64, .inl a_bl))]) (wr := [(q_n22, .inl (g 0, 64, .inl a_n22))]) [0] [1] rfl rfl rfl (by decide +kernel))) ?_
          refine z_widen (k := 327) (n := 2020) (by first | exact Nat.le_of_ble_eq_true rfl | omega) (by first | exact Nat.le_of_ble_eq_true rfl | omega) ?_
          refine z_sub (lv' := [(1, .ref (ax 0)), (2, .ref q_bl), (3, .int x3)]) [0, 1, 2] rfl ?_
          exact H131 (0 : Int32) x3 x h
        · refine z_iconst X (1 : Int32) dL_gone_126 (by decide) ?_
          refine z_goto X 131 dL_gone_127 (by decide) ?_
          refine z_drop (ws' := ([(q_bl, .inl (g 3, 64, .inl a_bl))] ++ OW g ax ad x)) (wr := [(q_n22, .inl (g 0, 64, .inl a_n22))]) (pm_drop (perm_of (n := 2) (E := [(q_bl, .inl (g 3, 64, .inl a_bl)), (q_n22, .inl (g 0, 64, .inl a_n22))]) (wc := [(q_bl, .inl (g 3, 64, .inl a_bl))]) (wr := [(q_n22, .inl (g 0, 64, .inl a_n22))]) [0] [1] rfl rfl rfl (by decide +kernel))) ?_
          refine z_widen (k := 327) (n := 2020) (by first | exact Nat.le_of_ble_eq_true rfl | omega) (by first | exact Nat.le_of_ble_eq_true rfl | omega) ?_
          refine z_sub (lv' := [(1, .ref (ax 0)), (2, .ref q_bl), (3, .int x3)]) [0, 1, 2] rfl ?_
          exact H131 (1 : Int32) x3 x h
      · refine z_aload X 4 dL_gone_37 rfl ?_
        refine z_iload X 5 dL_gone_39 rfl ?_
        refine z_iald (q0 := 1) X IW_P dL_gone_41 rfl h (fun h => ?_)
        refine z_sipush X (1000 : Int32) dL_gone_42 (by decide) ?_
        refine z_icmp_ge X 56 dL_gone_45 (by decide) h (fun _ h => ?_) (fun _ h => ?_)
        · refine z_bipush X ((-13) : Int32) dL_gone_56 (by decide) ?_
          refine z_widen (k := (c30 + 0)) (n := (s30 + 0)) (by first | exact Nat.le_of_ble_eq_true rfl | omega) (by first | exact Nat.le_of_ble_eq_true rfl | omega) ?_
          exact H58 q_n22 ((-13) : Int32) x3 x4 x6 x a_n22 h
        · refine z_aload X 4 dL_gone_48 rfl ?_
          refine z_iload X 5 dL_gone_50 rfl ?_
          refine z_iald (q0 := 1) X IW_P dL_gone_52 rfl h (fun h => ?_)
          refine z_goto X 58 dL_gone_53 (by decide) ?_
          refine z_widen (k := (c30 + 0)) (n := (s30 + 0)) (by first | exact Nat.le_of_ble_eq_true rfl | omega) (by first | exact Nat.le_of_ble_eq_true rfl | omega) ?_
          exact H58 q_n22 (a_n22 x6.toNatClampNeg) x3 x4 x6 x a_n22 h
  refine z_aload_n X 1 dL_gone_0 rfl rfl ?_
  refine z_iconst X (2 : Int32) dL_gone_1 (by decide) ?_
  obtain ⟨o1, e2, h⟩ := bnd_p h
  obtain ⟨hz3, h⟩ := grd_p h
  obtain ⟨wco1, wdo1, hNo1, bo1, do1, xo1⟩ := nx_account l hfl ev.ak ev.av ev.aS D g ad ax (2 : Int32) x o1.1 o1.2.1 o1.2.2 e2
  rw [xo1] at do1
  have fo1 := bk_E (E := [(q_bl, .inl (g 3, 64, .inl a_bl))]) bo1 do1
  refine z_exV (rest := []) (q0 := 1) (ci := 11) (ws' := ([(q_bl, .inl (g 3, 64, .inl a_bl))] ++ OW g ax ad x)) X hK.1 hA k_X11_account hNo1 ql_L_X11_account dL_gone_2 fo1.1 fo1.2 rfl rfl rfl rfl rfl ⟨Nat.le_of_ble_eq_true rfl, Nat.le_of_ble_eq_true rfl, rfl, rfl, (Nat.le_trans (m := 1031) (by first | exact Nat.le_of_ble_eq_true rfl | omega) (Nat.le_of_ble_eq_true rfl)), (Nat.le_trans (m := 6940) (by first | exact Nat.le_of_ble_eq_true rfl | omega) (Nat.le_of_ble_eq_true rfl))⟩ (Nat.le_of_ble_eq_true rfl) (fun _ => ?_) (fun q => absurd hz3 q)
  refine z_istore_n X [(3, .int o1.2.1), (0, .ref ev.b), (1, .ref (ax 0)), (2, .ref q_bl)] dL_gone_5 rfl (by decide) rfl ?_
  refine z_aload_n X 1 dL_gone_6 rfl rfl ?_
  refine z_bipush X (29 : Int32) dL_gone_7 (by decide) ?_
  obtain ⟨o4, e5, h⟩ := bnd_p h
  have f6 : bkc ([(q_bl, .inl (g 3, 64, .inl a_bl))] ++ OW g ax ad x) [] ∧ bk ([(q_bl, .inl (g 3, 64, .inl a_bl))] ++ OW g ax ad x) ([(q_bl, .inl (g 3, 64, .inl a_bl))] ++ OW g ax ad x) [] [] := ⟨bkc_nil, bk_nil⟩
  refine z_gS (rest := []) (ws' := ([(q_bl, .inl (g 3, 64, .inl a_bl))] ++ OW g ax ad x)) X (KF_ok ev) (kc_of (KF_ok ev) (fun _ _ _ q => q) hK hA f6.1) hA k_L_cell (c_L_cell l hfl ev D g (29 : Int32) o4 e5) ql_L_L_cell dL_gone_9 f6.1 f6.2 rfl rfl ⟨Nat.le_of_ble_eq_true rfl, Nat.le_of_ble_eq_true rfl, rfl, rfl, (Nat.le_trans (m := 1031) (by first | exact Nat.le_of_ble_eq_true rfl | omega) (Nat.le_of_ble_eq_true rfl)), (Nat.le_trans (m := 6940) (by first | exact Nat.le_of_ble_eq_true rfl | omega) (Nat.le_of_ble_eq_true rfl))⟩ (Nat.le_of_ble_eq_true rfl) ?_
  refine z_iconst X (1 : Int32) dL_gone_12 (by decide) ?_
  refine z_iushr X dL_gone_13 ?_
  refine z_bipush X (64 : Int32) dL_gone_14 (by decide) ?_
  refine z_irem X dL_gone_16 (by decide) ?_
  refine z_istore X [(4, .int ((ushr o4 (1 : Int32)) - (ushr o4 (1 : Int32)) / (64 : Int32) * (64 : Int32))), (3, .int o1.2.1), (0, .ref ev.b), (1, .ref (ax 0)), (2, .ref q_bl)] dL_gone_17 (by decide) rfl ?_
  refine z_iload X 0 dL_gone_19 rfl ?_
  refine z_aload_n X 4 dL_gone_21 rfl rfl ?_
  obtain ⟨o7, e8, h⟩ := bnd_p h
  refine z_oS (rest := []) (wr := ([] ++ OW g ax ad x)) X (KF_ok ev) (kc_of (KF_ok ev) (fun _ _ _ q => q) hK hA (pm_bkc (wr := ([] ++ OW g ax ad x)) (pm_cut (perm_of (n := 1) (E := [(q_bl, .inl (g 3, 64, .inl a_bl))]) (wc := [(q_bl, .inl (g 3, 64, .inl a_bl))]) (wr := []) [0] [] rfl rfl rfl (by decide +kernel))))) hA k_L_steps (c_L_steps l hfl ev D g q_bl ((ushr o4 (1 : Int32)) - (ushr o4 (1 : Int32)) / (64 : Int32) * (64 : Int32)) a_bl o7 e8) ql_L_L_steps dL_gone_22 (pm_cut (perm_of (n := 1) (E := [(q_bl, .inl (g 3, 64, .inl a_bl))]) (wc := [(q_bl, .inl (g 3, 64, .inl a_bl))]) (wr := []) [0] [] rfl rfl rfl (by decide +kernel))) rfl rfl ⟨Nat.le_of_ble_eq_true rfl, Nat.le_of_ble_eq_true rfl, rfl, rfl, (Nat.le_trans (m := 1031) (by first | exact Nat.le_of_ble_eq_true rfl | omega) (Nat.le_of_ble_eq_true rfl)), (Nat.le_trans (m := 6940) (by first | exact Nat.le_of_ble_eq_true rfl | omega) (Nat.le_of_ble_eq_true rfl))⟩ (Nat.le_of_ble_eq_true rfl) (fun q_n22 _ => ?_)
  refine z_perm (ws' := ([(q_n22, .inl (g 0, 64, .inl o7)), (q_bl, .inl (g 3, 64, .inl a_bl))] ++ OW g ax ad x)) (pm_back (N := [(q_n22, .inl (g 0, 64, .inl o7))]) (perm_of (n := 1) (E := [(q_bl, .inl (g 3, 64, .inl a_bl))]) (wc := [(q_bl, .inl (g 3, 64, .inl a_bl))]) (wr := []) [0] [] rfl rfl rfl (by decide +kernel))) ?_
  refine z_astore X [(5, .ref q_n22), (4, .int ((ushr o4 (1 : Int32)) - (ushr o4 (1 : Int32)) / (64 : Int32) * (64 : Int32))), (3, .int o1.2.1), (0, .ref ev.b), (1, .ref (ax 0)), (2, .ref q_bl)] dL_gone_25 (by decide) rfl ?_
  refine z_iconst X (0 : Int32) dL_gone_27 (by decide) ?_
  refine z_istore X [(6, .int (0 : Int32)), (5, .ref q_n22), (4, .int ((ushr o4 (1 : Int32)) - (ushr o4 (1 : Int32)) / (64 : Int32) * (64 : Int32))), (3, .int o1.2.1), (0, .ref ev.b), (1, .ref (ax 0)), (2, .ref q_bl)] dL_gone_28 (by decide) rfl ?_
  refine z_drop (ws' := ([(q_bl, .inl (g 3, 64, .inl a_bl)), (q_n22, .inl (g 0, 64, .inl o7))] ++ OW g ax ad x)) (wr := []) (pm_drop (perm_of (n := 2) (E := [(q_n22, .inl (g 0, 64, .inl o7)), (q_bl, .inl (g 3, 64, .inl a_bl))]) (wc := [(q_bl, .inl (g 3, 64, .inl a_bl)), (q_n22, .inl (g 0, 64, .inl o7))]) (wr := []) [1, 0] [] rfl rfl rfl (by decide +kernel))) ?_
  refine z_sub (lv' := [(1, .ref (ax 0)), (2, .ref q_bl), (3, .int o1.2.1), (4, .int ((ushr o4 (1 : Int32)) - (ushr o4 (1 : Int32)) / (64 : Int32) * (64 : Int32))), (5, .ref q_n22), (6, .int (0 : Int32))]) [5, 6, 3, 2, 1, 0] rfl ?_
  exact H30 65 q_n22 o1.2.1 ((ushr o4 (1 : Int32)) - (ushr o4 (1 : Int32)) / (64 : Int32) * (64 : Int32)) (0 : Int32) x o7 _ _ (by first | exact Nat.le_of_ble_eq_true rfl | omega) (by first | exact Nat.le_of_ble_eq_true rfl | omega) h
