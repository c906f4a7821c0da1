def J_L_drawn_500 (L : Nat) (xs : Nat → Int32) (x : XVal) (a_bl : Nat → Int32) : Option (XVal × (Nat → Int32)) :=
  some (x, a_bl)

def J_L_drawn_478 (L : Nat) (xs : Nat → Int32) (r347 : Int32 → (XVal) → (Nat → Int32) → Option (XVal × (Nat → Int32))) (t0 : Int32) (x4 : Int32) (x : XVal) (a_bl : Nat → Int32) : Option (XVal × (Nat → Int32)) :=
  brn (0 ≤ t0) (r347 (x4 + 1) x a_bl) (brn (t0 = ((-3) : Int32)) (r347 (x4 + 1) x a_bl) (none))

def J_L_drawn_423 (L : Nat) (xs : Nat → Int32) (r347 : Int32 → (XVal) → (Nat → Int32) → Option (XVal × (Nat → Int32))) (x4 : Int32) (x5 : Int32) (x : XVal) (a_bl : Nat → Int32) : Option (XVal × (Nat → Int32)) :=
  bnd (G_account (2 : Int32) x) (fun o13 => grd (o13.1 = 0) (grd (¬ o13.2.1 = 0) (bnd (F_L_ring ((ushr x5 (2 : Int32)) - (ushr x5 (2 : Int32)) / o13.2.1 * o13.2.1) ((1 : Int32) + ((ushr x5 (6 : Int32)) - (ushr x5 (6 : Int32)) / (5 : Int32) * (5 : Int32))) ((ushr x5 (9 : Int32)) - (ushr x5 (9 : Int32)) / (3 : Int32) * (3 : Int32)) x) (fun o16 => J_L_drawn_478 L xs (r347) o16.1 x4 o16.2 a_bl))))

def L_L_drawn_347 (L : Nat) (xs : Nat → Int32) : Nat → Int32 → (XVal) → (Nat → Int32) → Option (XVal × (Nat → Int32))
  | 0, _, _, _ => none
  | _n + 1, x4, x, a_bl =>
    brn ((6 : Int32) ≤ x4) (J_L_drawn_500 L xs x a_bl) (bnd (G_account (2 : Int32) x) (fun o4 => grd (o4.1 = 0) (brn (o4.2.1 ≤ 0) (J_L_drawn_500 L xs x a_bl) (bnd (F_L_cell L xs ((18 : Int32) + x4)) (fun o7 => brn (((ushr o7 (1 : Int32)) - (ushr o7 (1 : Int32)) / (3 : Int32) * (3 : Int32)) = 0) (bnd (F_L_pass ((1 : Int32) + ((ushr (ushr o7 (1 : Int32)) (2 : Int32)) - (ushr (ushr o7 (1 : Int32)) (2 : Int32)) / (30 : Int32) * (30 : Int32))) x) (fun o10 => J_L_drawn_478 L xs (L_L_drawn_347 L xs _n) o10.1 x4 o10.2 a_bl)) (brn (((ushr o7 (1 : Int32)) - (ushr o7 (1 : Int32)) / (3 : Int32) * (3 : Int32)) = (1 : Int32)) (J_L_drawn_423 L xs (L_L_drawn_347 L xs _n) x4 (ushr o7 (1 : Int32)) x a_bl) (bnd (G_account (4 : Int32) x) (fun o19 => grd (o19.1 = 0) (brn (o19.2.1 = 0) (J_L_drawn_423 L xs (L_L_drawn_347 L xs _n) x4 (ushr o7 (1 : Int32)) x a_bl) (bnd (G_account (10 : Int32) x) (fun o22 => grd (o22.1 = 0) (brn (0 ≤ o22.2.1) (bnd (G_account (4 : Int32) x) (fun o25 => grd (o25.1 = 0) (grd (¬ o25.2.1 = 0) (bnd (F_L_tell ((ushr (ushr o7 (1 : Int32)) (2 : Int32)) - (ushr (ushr o7 (1 : Int32)) (2 : Int32)) / o25.2.1 * o25.2.1) ((ushr (ushr o7 (1 : Int32)) (6 : Int32)) - (ushr (ushr o7 (1 : Int32)) (6 : Int32)) / (9 : Int32) * (9 : Int32)) x) (fun o28 => J_L_drawn_478 L xs (L_L_drawn_347 L xs _n) o28.1 x4 o28.2 a_bl))))) (J_L_drawn_423 L xs (L_L_drawn_347 L xs _n) x4 (ushr o7 (1 : Int32)) x a_bl)))))))))))))

def J_L_drawn_336 (L : Nat) (xs : Nat → Int32) (x : XVal) (a_bl : Nat → Int32) : Option (XVal × (Nat → Int32)) :=
  none

def L_L_drawn_278 (L : Nat) (xs : Nat → Int32) : Nat → Int32 → (XVal) → (Nat → Int32) → Option (XVal × (Nat → Int32))
  | 0, _, _, _ => none
  | _n + 1, x4, x, a_bl =>
    brn ((3 : Int32) ≤ x4) (L_L_drawn_347 L xs 7 (0 : Int32) x a_bl) (bnd (F_L_cell L xs ((15 : Int32) + x4)) (fun o31 => bnd (F_L_post ((ushr o31 (1 : Int32)) - (ushr o31 (1 : Int32)) / (64 : Int32) * (64 : Int32)) x) (fun o34 => brn (o34.1 = ((-1) : Int32)) (J_L_drawn_336 L xs o34.2 a_bl) (brn (o34.1 = ((-2) : Int32)) (bnd (F_L_refusal (0 : Int32) o34.2) (fun o37 => brn (o37 = (2 : Int32)) (L_L_drawn_278 L xs _n (x4 + 1) o34.2 a_bl) (bnd (F_L_refusal (0 : Int32) o34.2) (fun o40 => brn (o40 = (7 : Int32)) (L_L_drawn_278 L xs _n (x4 + 1) o34.2 a_bl) (J_L_drawn_336 L xs o34.2 a_bl))))) (L_L_drawn_278 L xs _n (x4 + 1) o34.2 a_bl)))))

def L_L_drawn_225 (L : Nat) (xs : Nat → Int32) : Nat → Int32 → (XVal) → (Nat → Int32) → Option (XVal × (Nat → Int32))
  | 0, _, _, _ => none
  | _n + 1, x4, x, a_bl =>
    brn ((3 : Int32) ≤ x4) (L_L_drawn_278 L xs 4 (0 : Int32) x a_bl) (bnd (F_L_cell L xs ((12 : Int32) + x4)) (fun o43 => bnd (F_L_hall x4 ((ushr o43 (1 : Int32)) - (ushr o43 (1 : Int32)) / (4 : Int32) * (4 : Int32)) ((4 : Int32) + ((ushr (ushr o43 (1 : Int32)) (2 : Int32)) - (ushr (ushr o43 (1 : Int32)) (2 : Int32)) / (4 : Int32) * (4 : Int32))) x) (fun o46 => brn (o46.1 = x4) (L_L_drawn_225 L xs _n (x4 + 1) o46.2 a_bl) (none))))

def J_L_drawn_214 (L : Nat) (xs : Nat → Int32) (x : XVal) (a_bl : Nat → Int32) : Option (XVal × (Nat → Int32)) :=
  none

def J_L_drawn_162 (L : Nat) (xs : Nat → Int32) (r108 : Int32 → (XVal) → (Nat → Int32) → Option (XVal × (Nat → Int32))) (t0 : Int32) (x4 : Int32) (x5 : Int32) (x : XVal) (a_bl : Nat → Int32) : Option (XVal × (Nat → Int32)) :=
  bnd (F_L_house t0 ((ushr x5 (8 : Int32)) - (ushr x5 (8 : Int32)) / (24 : Int32) * (24 : Int32)) ((ushr x5 (13 : Int32)) - (ushr x5 (13 : Int32)) / (24 : Int32) * (24 : Int32)) x) (fun o52 => brn (o52.1 = ((-1) : Int32)) (J_L_drawn_214 L xs o52.2 a_bl) (brn (o52.1 = ((-2) : Int32)) (bnd (F_L_refusal (0 : Int32) o52.2) (fun o55 => brn (o55 = (2 : Int32)) (r108 (x4 + 1) o52.2 a_bl) (bnd (F_L_refusal (0 : Int32) o52.2) (fun o58 => brn (o58 = (3 : Int32)) (r108 (x4 + 1) o52.2 a_bl) (J_L_drawn_214 L xs o52.2 a_bl))))) (r108 (x4 + 1) o52.2 a_bl)))

def L_L_drawn_108 (L : Nat) (xs : Nat → Int32) : Nat → Int32 → (XVal) → (Nat → Int32) → Option (XVal × (Nat → Int32))
  | 0, _, _, _ => none
  | _n + 1, x4, x, a_bl =>
    brn ((7 : Int32) ≤ x4) (L_L_drawn_225 L xs 4 (0 : Int32) x a_bl) (bnd (F_L_cell L xs ((5 : Int32) + x4)) (fun o49 => brn ((4 : Int32) ≤ x4) (J_L_drawn_162 L xs (L_L_drawn_108 L xs _n) ((ushr o49 (1 : Int32)) - (ushr o49 (1 : Int32)) / (64 : Int32) * (64 : Int32)) x4 (ushr o49 (1 : Int32)) x a_bl) (J_L_drawn_162 L xs (L_L_drawn_108 L xs _n) (((8 : Int32) * ((ushr (ushr o49 (1 : Int32)) (6 : Int32)) - (ushr (ushr o49 (1 : Int32)) (6 : Int32)) / (3 : Int32) * (3 : Int32))) + ((ushr o49 (1 : Int32)) - (ushr o49 (1 : Int32)) / (8 : Int32) * (8 : Int32))) x4 (ushr o49 (1 : Int32)) x a_bl)))

def J_L_drawn_94 (L : Nat) (xs : Nat → Int32) (r19 : Int32 → Int32 → (XVal) → (Nat → Int32) → Option (XVal × (Nat → Int32))) (t0 : Int32) (t1 : Int32) (x3 : Int32) (x4 : Int32) (x : XVal) (a_bl : Nat → Int32) : Option (XVal × (Nat → Int32)) :=
  brn (t1 = t0) (r19 x3 (x4 + 1) x a_bl) (none)

def J_L_drawn_75 (L : Nat) (xs : Nat → Int32) (r19 : Int32 → Int32 → (XVal) → (Nat → Int32) → Option (XVal × (Nat → Int32))) (t0 : Int32) (t1 : Int32) (x3 : Int32) (x4 : Int32) (x5 : Int32) (x : XVal) (a_bl : Nat → Int32) : Option (XVal × (Nat → Int32)) :=
  grd (inb t1 64) (bnd (F_L_block x5 x) (fun o64 => grd (inb x5 64) (brn (((upd a_bl t1.toNatClampNeg (vp_nar .boolean t0)) x5.toNatClampNeg) = 0) (J_L_drawn_94 L xs (r19) (0 : Int32) o64.1 x3 x4 o64.2 (upd a_bl t1.toNatClampNeg (vp_nar .boolean t0))) (J_L_drawn_94 L xs (r19) (1 : Int32) o64.1 x3 x4 o64.2 (upd a_bl t1.toNatClampNeg (vp_nar .boolean t0))))))

def L_L_drawn_19 (L : Nat) (xs : Nat → Int32) : Nat → Int32 → Int32 → (XVal) → (Nat → Int32) → Option (XVal × (Nat → Int32))
  | 0, _, _, _, _ => none
  | _n + 1, x3, x4, x, a_bl =>
    brn ((16 : Int32) ≤ x4) (L_L_drawn_108 L xs 8 (0 : Int32) x a_bl) (bnd (F_L_cell L xs ((1 : Int32) + (x4 / (4 : Int32)))) (fun o61 => brn ((x3 - x3 / (17 : Int32) * (17 : Int32)) ≤ x4) (L_L_drawn_19 L xs _n x3 (x4 + 1) x a_bl) (grd (inb ((ushr o61 ((1 : Int32) + ((6 : Int32) * (x4 - x4 / (4 : Int32) * (4 : Int32))))) - (ushr o61 ((1 : Int32) + ((6 : Int32) * (x4 - x4 / (4 : Int32) * (4 : Int32))))) / (64 : Int32) * (64 : Int32)) 64) (brn ((a_bl ((ushr o61 ((1 : Int32) + ((6 : Int32) * (x4 - x4 / (4 : Int32) * (4 : Int32))))) - (ushr o61 ((1 : Int32) + ((6 : Int32) * (x4 - x4 / (4 : Int32) * (4 : Int32))))) / (64 : Int32) * (64 : Int32)).toNatClampNeg) = 0) (J_L_drawn_75 L xs (L_L_drawn_19 L xs _n) (1 : Int32) ((ushr o61 ((1 : Int32) + ((6 : Int32) * (x4 - x4 / (4 : Int32) * (4 : Int32))))) - (ushr o61 ((1 : Int32) + ((6 : Int32) * (x4 - x4 / (4 : Int32) * (4 : Int32))))) / (64 : Int32) * (64 : Int32)) x3 x4 ((ushr o61 ((1 : Int32) + ((6 : Int32) * (x4 - x4 / (4 : Int32) * (4 : Int32))))) - (ushr o61 ((1 : Int32) + ((6 : Int32) * (x4 - x4 / (4 : Int32) * (4 : Int32))))) / (64 : Int32) * (64 : Int32)) x a_bl) (J_L_drawn_75 L xs (L_L_drawn_19 L xs _n) (0 : Int32) ((ushr o61 ((1 : Int32) + ((6 : Int32) * (x4 - x4 / (4 : Int32) * (4 : Int32))))) - (ushr o61 ((1 : Int32) + ((6 : Int32) * (x4 - x4 / (4 : Int32) * (4 : Int32))))) / (64 : Int32) * (64 : Int32)) x3 x4 ((ushr o61 ((1 : Int32) + ((6 : Int32) * (x4 - x4 / (4 : Int32) * (4 : Int32))))) - (ushr o61 ((1 : Int32) + ((6 : Int32) * (x4 - x4 / (4 : Int32) * (4 : Int32))))) / (64 : Int32) * (64 : Int32)) x a_bl)))))

def F_L_drawn (L : Nat) (xs : Nat → Int32) (a_bl : Nat → Int32) : Option (XVal × (Nat → Int32)) :=
  bnd (F_L_cell L xs (0 : Int32)) (fun o1 => L_L_drawn_19 L xs 17 (ushr o1 (1 : Int32)) (0 : Int32) x0 a_bl)

theorem dL_drawn_0 : decode cL_drawn 0 = .ok (.new 9, 3) := by decide +kernel
theorem dL_drawn_3 : decode cL_drawn 3 = .ok (.dup, 1) := by decide +kernel
theorem dL_drawn_4 : decode cL_drawn 4 = .ok (.invokespecial 144, 3) := by decide +kernel
theorem dL_drawn_7 : decode cL_drawn 7 = .ok (.astore_n 2, 1) := by decide +kernel
theorem dL_drawn_8 : decode cL_drawn 8 = .ok (.aload_n 0, 1) := by decide +kernel
theorem dL_drawn_9 : decode cL_drawn 9 = .ok (.iconst 0, 1) := by decide +kernel
theorem dL_drawn_10 : decode cL_drawn 10 = .ok (.invokestatic 145, 3) := by decide +kernel
theorem dL_drawn_13 : decode cL_drawn 13 = .ok (.iconst 1, 1) := by decide +kernel
theorem dL_drawn_14 : decode cL_drawn 14 = .ok (.iushr, 1) := by decide +kernel
theorem dL_drawn_15 : decode cL_drawn 15 = .ok (.istore_n 3, 1) := by decide +kernel
theorem dL_drawn_16 : decode cL_drawn 16 = .ok (.iconst 0, 1) := by decide +kernel
theorem dL_drawn_17 : decode cL_drawn 17 = .ok (.istore 4, 2) := by decide +kernel
theorem dL_drawn_19 : decode cL_drawn 19 = .ok (.iload 4, 2) := by decide +kernel
theorem dL_drawn_21 : decode cL_drawn 21 = .ok (.bipush 16, 2) := by decide +kernel
theorem dL_drawn_23 : decode cL_drawn 23 = .ok (.if_icmp .ge 82, 3) := by decide +kernel
theorem dL_drawn_26 : decode cL_drawn 26 = .ok (.aload_n 0, 1) := by decide +kernel
theorem dL_drawn_27 : decode cL_drawn 27 = .ok (.iconst 1, 1) := by decide +kernel
theorem dL_drawn_28 : decode cL_drawn 28 = .ok (.iload 4, 2) := by decide +kernel
theorem dL_drawn_30 : decode cL_drawn 30 = .ok (.iconst 4, 1) := by decide +kernel
theorem dL_drawn_31 : decode cL_drawn 31 = .ok (.idiv, 1) := by decide +kernel
theorem dL_drawn_32 : decode cL_drawn 32 = .ok (.iadd, 1) := by decide +kernel
theorem dL_drawn_33 : decode cL_drawn 33 = .ok (.invokestatic 145, 3) := by decide +kernel
theorem dL_drawn_36 : decode cL_drawn 36 = .ok (.iconst 1, 1) := by decide +kernel
theorem dL_drawn_37 : decode cL_drawn 37 = .ok (.bipush 6, 2) := by decide +kernel
theorem dL_drawn_39 : decode cL_drawn 39 = .ok (.iload 4, 2) := by decide +kernel
theorem dL_drawn_41 : decode cL_drawn 41 = .ok (.iconst 4, 1) := by decide +kernel
theorem dL_drawn_42 : decode cL_drawn 42 = .ok (.irem, 1) := by decide +kernel
theorem dL_drawn_43 : decode cL_drawn 43 = .ok (.imul, 1) := by decide +kernel
theorem dL_drawn_44 : decode cL_drawn 44 = .ok (.iadd, 1) := by decide +kernel
theorem dL_drawn_45 : decode cL_drawn 45 = .ok (.iushr, 1) := by decide +kernel
theorem dL_drawn_46 : decode cL_drawn 46 = .ok (.bipush 64, 2) := by decide +kernel
theorem dL_drawn_48 : decode cL_drawn 48 = .ok (.irem, 1) := by decide +kernel
theorem dL_drawn_49 : decode cL_drawn 49 = .ok (.istore 5, 2) := by decide +kernel
theorem dL_drawn_51 : decode cL_drawn 51 = .ok (.iload 4, 2) := by decide +kernel
theorem dL_drawn_53 : decode cL_drawn 53 = .ok (.iload_n 3, 1) := by decide +kernel
theorem dL_drawn_54 : decode cL_drawn 54 = .ok (.bipush 17, 2) := by decide +kernel
theorem dL_drawn_56 : decode cL_drawn 56 = .ok (.irem, 1) := by decide +kernel
theorem dL_drawn_57 : decode cL_drawn 57 = .ok (.if_icmp .ge 42, 3) := by decide +kernel
theorem dL_drawn_60 : decode cL_drawn 60 = .ok (.aload_n 1, 1) := by decide +kernel
theorem dL_drawn_61 : decode cL_drawn 61 = .ok (.iload 5, 2) := by decide +kernel
theorem dL_drawn_63 : decode cL_drawn 63 = .ok (.aload_n 1, 1) := by decide +kernel
theorem dL_drawn_64 : decode cL_drawn 64 = .ok (.iload 5, 2) := by decide +kernel
theorem dL_drawn_66 : decode cL_drawn 66 = .ok (.baload, 1) := by decide +kernel
theorem dL_drawn_67 : decode cL_drawn 67 = .ok (.ifCond .ne 7, 3) := by decide +kernel
theorem dL_drawn_70 : decode cL_drawn 70 = .ok (.iconst 1, 1) := by decide +kernel
theorem dL_drawn_71 : decode cL_drawn 71 = .ok (.goto 4, 3) := by decide +kernel
theorem dL_drawn_74 : decode cL_drawn 74 = .ok (.iconst 0, 1) := by decide +kernel
theorem dL_drawn_75 : decode cL_drawn 75 = .ok (.bastore, 1) := by decide +kernel
theorem dL_drawn_76 : decode cL_drawn 76 = .ok (.aload_n 2, 1) := by decide +kernel
theorem dL_drawn_77 : decode cL_drawn 77 = .ok (.iload 5, 2) := by decide +kernel
theorem dL_drawn_79 : decode cL_drawn 79 = .ok (.invokestatic 149, 3) := by decide +kernel
theorem dL_drawn_82 : decode cL_drawn 82 = .ok (.aload_n 1, 1) := by decide +kernel
theorem dL_drawn_83 : decode cL_drawn 83 = .ok (.iload 5, 2) := by decide +kernel
theorem dL_drawn_85 : decode cL_drawn 85 = .ok (.baload, 1) := by decide +kernel
theorem dL_drawn_86 : decode cL_drawn 86 = .ok (.ifCond .eq 7, 3) := by decide +kernel
theorem dL_drawn_89 : decode cL_drawn 89 = .ok (.iconst 1, 1) := by decide +kernel
theorem dL_drawn_90 : decode cL_drawn 90 = .ok (.goto 4, 3) := by decide +kernel
theorem dL_drawn_93 : decode cL_drawn 93 = .ok (.iconst 0, 1) := by decide +kernel
theorem dL_drawn_94 : decode cL_drawn 94 = .ok (.if_icmp .eq 5, 3) := by decide +kernel
theorem dL_drawn_97 : decode cL_drawn 97 = .ok (.aconst_null, 1) := by decide +kernel
theorem dL_drawn_98 : decode cL_drawn 98 = .ok (.areturn, 1) := by decide +kernel
theorem dL_drawn_99 : decode cL_drawn 99 = .ok (.iinc 4 1, 3) := by decide +kernel
theorem dL_drawn_102 : decode cL_drawn 102 = .ok (.goto (-83), 3) := by decide +kernel
theorem dL_drawn_105 : decode cL_drawn 105 = .ok (.iconst 0, 1) := by decide +kernel
theorem dL_drawn_106 : decode cL_drawn 106 = .ok (.istore 4, 2) := by decide +kernel
theorem dL_drawn_108 : decode cL_drawn 108 = .ok (.iload 4, 2) := by decide +kernel
theorem dL_drawn_110 : decode cL_drawn 110 = .ok (.bipush 7, 2) := by decide +kernel
theorem dL_drawn_112 : decode cL_drawn 112 = .ok (.if_icmp .ge 110, 3) := by decide +kernel
theorem dL_drawn_115 : decode cL_drawn 115 = .ok (.aload_n 0, 1) := by decide +kernel
theorem dL_drawn_116 : decode cL_drawn 116 = .ok (.iconst 5, 1) := by decide +kernel
theorem dL_drawn_117 : decode cL_drawn 117 = .ok (.iload 4, 2) := by decide +kernel
theorem dL_drawn_119 : decode cL_drawn 119 = .ok (.iadd, 1) := by decide +kernel
theorem dL_drawn_120 : decode cL_drawn 120 = .ok (.invokestatic 145, 3) := by decide +kernel
theorem dL_drawn_123 : decode cL_drawn 123 = .ok (.iconst 1, 1) := by decide +kernel
theorem dL_drawn_124 : decode cL_drawn 124 = .ok (.iushr, 1) := by decide +kernel
theorem dL_drawn_125 : decode cL_drawn 125 = .ok (.istore 5, 2) := by decide +kernel
theorem dL_drawn_127 : decode cL_drawn 127 = .ok (.iload 5, 2) := by decide +kernel
theorem dL_drawn_129 : decode cL_drawn 129 = .ok (.bipush 6, 2) := by decide +kernel
theorem dL_drawn_131 : decode cL_drawn 131 = .ok (.iushr, 1) := by decide +kernel
theorem dL_drawn_132 : decode cL_drawn 132 = .ok (.iconst 3, 1) := by decide +kernel
theorem dL_drawn_133 : decode cL_drawn 133 = .ok (.irem, 1) := by decide +kernel
theorem dL_drawn_134 : decode cL_drawn 134 = .ok (.istore 6, 2) := by decide +kernel
theorem dL_drawn_136 : decode cL_drawn 136 = .ok (.aload_n 2, 1) := by decide +kernel
theorem dL_drawn_137 : decode cL_drawn 137 = .ok (.iload 4, 2) := by decide +kernel
theorem dL_drawn_139 : decode cL_drawn 139 = .ok (.iconst 4, 1) := by decide +kernel
theorem dL_drawn_140 : decode cL_drawn 140 = .ok (.if_icmp .ge 17, 3) := by decide +kernel
theorem dL_drawn_143 : decode cL_drawn 143 = .ok (.bipush 8, 2) := by decide +kernel
theorem dL_drawn_145 : decode cL_drawn 145 = .ok (.iload 6, 2) := by decide +kernel
theorem dL_drawn_147 : decode cL_drawn 147 = .ok (.imul, 1) := by decide +kernel
theorem dL_drawn_148 : decode cL_drawn 148 = .ok (.iload 5, 2) := by decide +kernel
theorem dL_drawn_150 : decode cL_drawn 150 = .ok (.bipush 8, 2) := by decide +kernel
theorem dL_drawn_152 : decode cL_drawn 152 = .ok (.irem, 1) := by decide +kernel
theorem dL_drawn_153 : decode cL_drawn 153 = .ok (.iadd, 1) := by decide +kernel
theorem dL_drawn_154 : decode cL_drawn 154 = .ok (.goto 8, 3) := by decide +kernel
theorem dL_drawn_157 : decode cL_drawn 157 = .ok (.iload 5, 2) := by decide +kernel
theorem dL_drawn_159 : decode cL_drawn 159 = .ok (.bipush 64, 2) := by decide +kernel
theorem dL_drawn_161 : decode cL_drawn 161 = .ok (.irem, 1) := by decide +kernel
theorem dL_drawn_162 : decode cL_drawn 162 = .ok (.iload 5, 2) := by decide +kernel
theorem dL_drawn_164 : decode cL_drawn 164 = .ok (.bipush 8, 2) := by decide +kernel
theorem dL_drawn_166 : decode cL_drawn 166 = .ok (.iushr, 1) := by decide +kernel
theorem dL_drawn_167 : decode cL_drawn 167 = .ok (.bipush 24, 2) := by decide +kernel
theorem dL_drawn_169 : decode cL_drawn 169 = .ok (.irem, 1) := by decide +kernel
theorem dL_drawn_170 : decode cL_drawn 170 = .ok (.iload 5, 2) := by decide +kernel
theorem dL_drawn_172 : decode cL_drawn 172 = .ok (.bipush 13, 2) := by decide +kernel
theorem dL_drawn_174 : decode cL_drawn 174 = .ok (.iushr, 1) := by decide +kernel
theorem dL_drawn_175 : decode cL_drawn 175 = .ok (.bipush 24, 2) := by decide +kernel
theorem dL_drawn_177 : decode cL_drawn 177 = .ok (.irem, 1) := by decide +kernel
theorem dL_drawn_178 : decode cL_drawn 178 = .ok (.invokestatic 152, 3) := by decide +kernel
theorem dL_drawn_181 : decode cL_drawn 181 = .ok (.istore 7, 2) := by decide +kernel
theorem dL_drawn_183 : decode cL_drawn 183 = .ok (.iload 7, 2) := by decide +kernel
theorem dL_drawn_185 : decode cL_drawn 185 = .ok (.iconst (-1), 1) := by decide +kernel
theorem dL_drawn_186 : decode cL_drawn 186 = .ok (.if_icmp .eq 28, 3) := by decide +kernel
theorem dL_drawn_189 : decode cL_drawn 189 = .ok (.iload 7, 2) := by decide +kernel
theorem dL_drawn_191 : decode cL_drawn 191 = .ok (.bipush (-2), 2) := by decide +kernel
theorem dL_drawn_193 : decode cL_drawn 193 = .ok (.if_icmp .ne 23, 3) := by decide +kernel
theorem dL_drawn_196 : decode cL_drawn 196 = .ok (.aload_n 2, 1) := by decide +kernel
theorem dL_drawn_197 : decode cL_drawn 197 = .ok (.iconst 0, 1) := by decide +kernel
theorem dL_drawn_198 : decode cL_drawn 198 = .ok (.invokestatic 155, 3) := by decide +kernel
theorem dL_drawn_201 : decode cL_drawn 201 = .ok (.iconst 2, 1) := by decide +kernel
theorem dL_drawn_202 : decode cL_drawn 202 = .ok (.if_icmp .eq 14, 3) := by decide +kernel
theorem dL_drawn_205 : decode cL_drawn 205 = .ok (.aload_n 2, 1) := by decide +kernel
theorem dL_drawn_206 : decode cL_drawn 206 = .ok (.iconst 0, 1) := by decide +kernel
theorem dL_drawn_207 : decode cL_drawn 207 = .ok (.invokestatic 155, 3) := by decide +kernel
theorem dL_drawn_210 : decode cL_drawn 210 = .ok (.iconst 3, 1) := by decide +kernel
theorem dL_drawn_211 : decode cL_drawn 211 = .ok (.if_icmp .eq 5, 3) := by decide +kernel
theorem dL_drawn_214 : decode cL_drawn 214 = .ok (.aconst_null, 1) := by decide +kernel
theorem dL_drawn_215 : decode cL_drawn 215 = .ok (.areturn, 1) := by decide +kernel
theorem dL_drawn_216 : decode cL_drawn 216 = .ok (.iinc 4 1, 3) := by decide +kernel
theorem dL_drawn_219 : decode cL_drawn 219 = .ok (.goto (-111), 3) := by decide +kernel
theorem dL_drawn_222 : decode cL_drawn 222 = .ok (.iconst 0, 1) := by decide +kernel
theorem dL_drawn_223 : decode cL_drawn 223 = .ok (.istore 4, 2) := by decide +kernel
theorem dL_drawn_225 : decode cL_drawn 225 = .ok (.iload 4, 2) := by decide +kernel
theorem dL_drawn_227 : decode cL_drawn 227 = .ok (.iconst 3, 1) := by decide +kernel
theorem dL_drawn_228 : decode cL_drawn 228 = .ok (.if_icmp .ge 47, 3) := by decide +kernel
theorem dL_drawn_231 : decode cL_drawn 231 = .ok (.aload_n 0, 1) := by decide +kernel
theorem dL_drawn_232 : decode cL_drawn 232 = .ok (.bipush 12, 2) := by decide +kernel
theorem dL_drawn_234 : decode cL_drawn 234 = .ok (.iload 4, 2) := by decide +kernel
theorem dL_drawn_236 : decode cL_drawn 236 = .ok (.iadd, 1) := by decide +kernel
theorem dL_drawn_237 : decode cL_drawn 237 = .ok (.invokestatic 145, 3) := by decide +kernel
theorem dL_drawn_240 : decode cL_drawn 240 = .ok (.iconst 1, 1) := by decide +kernel
theorem dL_drawn_241 : decode cL_drawn 241 = .ok (.iushr, 1) := by decide +kernel
theorem dL_drawn_242 : decode cL_drawn 242 = .ok (.istore 5, 2) := by decide +kernel
theorem dL_drawn_244 : decode cL_drawn 244 = .ok (.aload_n 2, 1) := by decide +kernel
theorem dL_drawn_245 : decode cL_drawn 245 = .ok (.iload 4, 2) := by decide +kernel
theorem dL_drawn_247 : decode cL_drawn 247 = .ok (.iload 5, 2) := by decide +kernel
theorem dL_drawn_249 : decode cL_drawn 249 = .ok (.iconst 4, 1) := by decide +kernel
theorem dL_drawn_250 : decode cL_drawn 250 = .ok (.irem, 1) := by decide +kernel
theorem dL_drawn_251 : decode cL_drawn 251 = .ok (.iconst 4, 1) := by decide +kernel
theorem dL_drawn_252 : decode cL_drawn 252 = .ok (.iload 5, 2) := by decide +kernel
theorem dL_drawn_254 : decode cL_drawn 254 = .ok (.iconst 2, 1) := by decide +kernel
theorem dL_drawn_255 : decode cL_drawn 255 = .ok (.iushr, 1) := by decide +kernel
theorem dL_drawn_256 : decode cL_drawn 256 = .ok (.iconst 4, 1) := by decide +kernel
theorem dL_drawn_257 : decode cL_drawn 257 = .ok (.irem, 1) := by decide +kernel
theorem dL_drawn_258 : decode cL_drawn 258 = .ok (.iadd, 1) := by decide +kernel
theorem dL_drawn_259 : decode cL_drawn 259 = .ok (.invokestatic 158, 3) := by decide +kernel
theorem dL_drawn_262 : decode cL_drawn 262 = .ok (.iload 4, 2) := by decide +kernel
theorem dL_drawn_264 : decode cL_drawn 264 = .ok (.if_icmp .eq 5, 3) := by decide +kernel
theorem dL_drawn_267 : decode cL_drawn 267 = .ok (.aconst_null, 1) := by decide +kernel
theorem dL_drawn_268 : decode cL_drawn 268 = .ok (.areturn, 1) := by decide +kernel
theorem dL_drawn_269 : decode cL_drawn 269 = .ok (.iinc 4 1, 3) := by decide +kernel
theorem dL_drawn_272 : decode cL_drawn 272 = .ok (.goto (-47), 3) := by decide +kernel
theorem dL_drawn_275 : decode cL_drawn 275 = .ok (.iconst 0, 1) := by decide +kernel
theorem dL_drawn_276 : decode cL_drawn 276 = .ok (.istore 4, 2) := by decide +kernel
theorem dL_drawn_278 : decode cL_drawn 278 = .ok (.iload 4, 2) := by decide +kernel
theorem dL_drawn_280 : decode cL_drawn 280 = .ok (.iconst 3, 1) := by decide +kernel
theorem dL_drawn_281 : decode cL_drawn 281 = .ok (.if_icmp .ge 63, 3) := by decide +kernel
theorem dL_drawn_284 : decode cL_drawn 284 = .ok (.aload_n 2, 1) := by decide +kernel
theorem dL_drawn_285 : decode cL_drawn 285 = .ok (.aload_n 0, 1) := by decide +kernel
theorem dL_drawn_286 : decode cL_drawn 286 = .ok (.bipush 15, 2) := by decide +kernel
theorem dL_drawn_288 : decode cL_drawn 288 = .ok (.iload 4, 2) := by decide +kernel
theorem dL_drawn_290 : decode cL_drawn 290 = .ok (.iadd, 1) := by decide +kernel
theorem dL_drawn_291 : decode cL_drawn 291 = .ok (.invokestatic 145, 3) := by decide +kernel
theorem dL_drawn_294 : decode cL_drawn 294 = .ok (.iconst 1, 1) := by decide +kernel
theorem dL_drawn_295 : decode cL_drawn 295 = .ok (.iushr, 1) := by decide +kernel
theorem dL_drawn_296 : decode cL_drawn 296 = .ok (.bipush 64, 2) := by decide +kernel
theorem dL_drawn_298 : decode cL_drawn 298 = .ok (.irem, 1) := by decide +kernel
theorem dL_drawn_299 : decode cL_drawn 299 = .ok (.invokestatic 160, 3) := by decide +kernel
theorem dL_drawn_302 : decode cL_drawn 302 = .ok (.istore 5, 2) := by decide +kernel
theorem dL_drawn_304 : decode cL_drawn 304 = .ok (.iload 5, 2) := by decide +kernel
theorem dL_drawn_306 : decode cL_drawn 306 = .ok (.iconst (-1), 1) := by decide +kernel
theorem dL_drawn_307 : decode cL_drawn 307 = .ok (.if_icmp .eq 29, 3) := by decide +kernel
theorem dL_drawn_310 : decode cL_drawn 310 = .ok (.iload 5, 2) := by decide +kernel
theorem dL_drawn_312 : decode cL_drawn 312 = .ok (.bipush (-2), 2) := by decide +kernel
theorem dL_drawn_314 : decode cL_drawn 314 = .ok (.if_icmp .ne 24, 3) := by decide +kernel
theorem dL_drawn_317 : decode cL_drawn 317 = .ok (.aload_n 2, 1) := by decide +kernel
theorem dL_drawn_318 : decode cL_drawn 318 = .ok (.iconst 0, 1) := by decide +kernel
theorem dL_drawn_319 : decode cL_drawn 319 = .ok (.invokestatic 155, 3) := by decide +kernel
theorem dL_drawn_322 : decode cL_drawn 322 = .ok (.iconst 2, 1) := by decide +kernel
theorem dL_drawn_323 : decode cL_drawn 323 = .ok (.if_icmp .eq 15, 3) := by decide +kernel
theorem dL_drawn_326 : decode cL_drawn 326 = .ok (.aload_n 2, 1) := by decide +kernel
theorem dL_drawn_327 : decode cL_drawn 327 = .ok (.iconst 0, 1) := by decide +kernel
theorem dL_drawn_328 : decode cL_drawn 328 = .ok (.invokestatic 155, 3) := by decide +kernel
theorem dL_drawn_331 : decode cL_drawn 331 = .ok (.bipush 7, 2) := by decide +kernel
theorem dL_drawn_333 : decode cL_drawn 333 = .ok (.if_icmp .eq 5, 3) := by decide +kernel
theorem dL_drawn_336 : decode cL_drawn 336 = .ok (.aconst_null, 1) := by decide +kernel
theorem dL_drawn_337 : decode cL_drawn 337 = .ok (.areturn, 1) := by decide +kernel
theorem dL_drawn_338 : decode cL_drawn 338 = .ok (.iinc 4 1, 3) := by decide +kernel
theorem dL_drawn_341 : decode cL_drawn 341 = .ok (.goto (-63), 3) := by decide +kernel
theorem dL_drawn_344 : decode cL_drawn 344 = .ok (.iconst 0, 1) := by decide +kernel
theorem dL_drawn_345 : decode cL_drawn 345 = .ok (.istore 4, 2) := by decide +kernel
theorem dL_drawn_347 : decode cL_drawn 347 = .ok (.iload 4, 2) := by decide +kernel
theorem dL_drawn_349 : decode cL_drawn 349 = .ok (.bipush 6, 2) := by decide +kernel
theorem dL_drawn_351 : decode cL_drawn 351 = .ok (.if_icmp .ge 149, 3) := by decide +kernel
theorem dL_drawn_354 : decode cL_drawn 354 = .ok (.aload_n 2, 1) := by decide +kernel
theorem dL_drawn_355 : decode cL_drawn 355 = .ok (.iconst 2, 1) := by decide +kernel
theorem dL_drawn_356 : decode cL_drawn 356 = .ok (.invokevirtual 162, 3) := by decide +kernel
theorem dL_drawn_359 : decode cL_drawn 359 = .ok (.ifCond .le 141, 3) := by decide +kernel
theorem dL_drawn_362 : decode cL_drawn 362 = .ok (.aload_n 0, 1) := by decide +kernel
theorem dL_drawn_363 : decode cL_drawn 363 = .ok (.bipush 18, 2) := by decide +kernel
theorem dL_drawn_365 : decode cL_drawn 365 = .ok (.iload 4, 2) := by decide +kernel
theorem dL_drawn_367 : decode cL_drawn 367 = .ok (.iadd, 1) := by decide +kernel
theorem dL_drawn_368 : decode cL_drawn 368 = .ok (.invokestatic 145, 3) := by decide +kernel
theorem dL_drawn_371 : decode cL_drawn 371 = .ok (.iconst 1, 1) := by decide +kernel
theorem dL_drawn_372 : decode cL_drawn 372 = .ok (.iushr, 1) := by decide +kernel
theorem dL_drawn_373 : decode cL_drawn 373 = .ok (.istore 5, 2) := by decide +kernel
theorem dL_drawn_375 : decode cL_drawn 375 = .ok (.iload 5, 2) := by decide +kernel
theorem dL_drawn_377 : decode cL_drawn 377 = .ok (.iconst 3, 1) := by decide +kernel
theorem dL_drawn_378 : decode cL_drawn 378 = .ok (.irem, 1) := by decide +kernel
theorem dL_drawn_379 : decode cL_drawn 379 = .ok (.ifCond .ne 19, 3) := by decide +kernel
theorem dL_drawn_382 : decode cL_drawn 382 = .ok (.aload_n 2, 1) := by decide +kernel
theorem dL_drawn_383 : decode cL_drawn 383 = .ok (.iconst 1, 1) := by decide +kernel
theorem dL_drawn_384 : decode cL_drawn 384 = .ok (.iload 5, 2) := by decide +kernel
theorem dL_drawn_386 : decode cL_drawn 386 = .ok (.iconst 2, 1) := by decide +kernel
theorem dL_drawn_387 : decode cL_drawn 387 = .ok (.iushr, 1) := by decide +kernel
theorem dL_drawn_388 : decode cL_drawn 388 = .ok (.bipush 30, 2) := by decide +kernel
theorem dL_drawn_390 : decode cL_drawn 390 = .ok (.irem, 1) := by decide +kernel
theorem dL_drawn_391 : decode cL_drawn 391 = .ok (.iadd, 1) := by decide +kernel
theorem dL_drawn_392 : decode cL_drawn 392 = .ok (.invokestatic 165, 3) := by decide +kernel
theorem dL_drawn_395 : decode cL_drawn 395 = .ok (.goto 83, 3) := by decide +kernel
theorem dL_drawn_398 : decode cL_drawn 398 = .ok (.iload 5, 2) := by decide +kernel
theorem dL_drawn_400 : decode cL_drawn 400 = .ok (.iconst 3, 1) := by decide +kernel
theorem dL_drawn_401 : decode cL_drawn 401 = .ok (.irem, 1) := by decide +kernel
theorem dL_drawn_402 : decode cL_drawn 402 = .ok (.iconst 1, 1) := by decide +kernel
theorem dL_drawn_403 : decode cL_drawn 403 = .ok (.if_icmp .eq 20, 3) := by decide +kernel
theorem dL_drawn_406 : decode cL_drawn 406 = .ok (.aload_n 2, 1) := by decide +kernel
theorem dL_drawn_407 : decode cL_drawn 407 = .ok (.iconst 4, 1) := by decide +kernel
theorem dL_drawn_408 : decode cL_drawn 408 = .ok (.invokevirtual 162, 3) := by decide +kernel
theorem dL_drawn_411 : decode cL_drawn 411 = .ok (.ifCond .eq 12, 3) := by decide +kernel
theorem dL_drawn_414 : decode cL_drawn 414 = .ok (.aload_n 2, 1) := by decide +kernel
theorem dL_drawn_415 : decode cL_drawn 415 = .ok (.bipush 10, 2) := by decide +kernel
theorem dL_drawn_417 : decode cL_drawn 417 = .ok (.invokevirtual 162, 3) := by decide +kernel
theorem dL_drawn_420 : decode cL_drawn 420 = .ok (.ifCond .ge 36, 3) := by decide +kernel
theorem dL_drawn_423 : decode cL_drawn 423 = .ok (.aload_n 2, 1) := by decide +kernel
theorem dL_drawn_424 : decode cL_drawn 424 = .ok (.iload 5, 2) := by decide +kernel
theorem dL_drawn_426 : decode cL_drawn 426 = .ok (.iconst 2, 1) := by decide +kernel
theorem dL_drawn_427 : decode cL_drawn 427 = .ok (.iushr, 1) := by decide +kernel
theorem dL_drawn_428 : decode cL_drawn 428 = .ok (.aload_n 2, 1) := by decide +kernel
theorem dL_drawn_429 : decode cL_drawn 429 = .ok (.iconst 2, 1) := by decide +kernel
theorem dL_drawn_430 : decode cL_drawn 430 = .ok (.invokevirtual 162, 3) := by decide +kernel
theorem dL_drawn_433 : decode cL_drawn 433 = .ok (.irem, 1) := by decide +kernel
theorem dL_drawn_434 : decode cL_drawn 434 = .ok (.iconst 1, 1) := by decide +kernel
theorem dL_drawn_435 : decode cL_drawn 435 = .ok (.iload 5, 2) := by decide +kernel
theorem dL_drawn_437 : decode cL_drawn 437 = .ok (.bipush 6, 2) := by decide +kernel
theorem dL_drawn_439 : decode cL_drawn 439 = .ok (.iushr, 1) := by decide +kernel
theorem dL_drawn_440 : decode cL_drawn 440 = .ok (.iconst 5, 1) := by decide +kernel
theorem dL_drawn_441 : decode cL_drawn 441 = .ok (.irem, 1) := by decide +kernel
theorem dL_drawn_442 : decode cL_drawn 442 = .ok (.iadd, 1) := by decide +kernel
theorem dL_drawn_443 : decode cL_drawn 443 = .ok (.iload 5, 2) := by decide +kernel
theorem dL_drawn_445 : decode cL_drawn 445 = .ok (.bipush 9, 2) := by decide +kernel
theorem dL_drawn_447 : decode cL_drawn 447 = .ok (.iushr, 1) := by decide +kernel
theorem dL_drawn_448 : decode cL_drawn 448 = .ok (.iconst 3, 1) := by decide +kernel
theorem dL_drawn_449 : decode cL_drawn 449 = .ok (.irem, 1) := by decide +kernel
theorem dL_drawn_450 : decode cL_drawn 450 = .ok (.invokestatic 167, 3) := by decide +kernel
theorem dL_drawn_453 : decode cL_drawn 453 = .ok (.goto 25, 3) := by decide +kernel
theorem dL_drawn_456 : decode cL_drawn 456 = .ok (.aload_n 2, 1) := by decide +kernel
theorem dL_drawn_457 : decode cL_drawn 457 = .ok (.iload 5, 2) := by decide +kernel
theorem dL_drawn_459 : decode cL_drawn 459 = .ok (.iconst 2, 1) := by decide +kernel
theorem dL_drawn_460 : decode cL_drawn 460 = .ok (.iushr, 1) := by decide +kernel
theorem dL_drawn_461 : decode cL_drawn 461 = .ok (.aload_n 2, 1) := by decide +kernel
theorem dL_drawn_462 : decode cL_drawn 462 = .ok (.iconst 4, 1) := by decide +kernel
theorem dL_drawn_463 : decode cL_drawn 463 = .ok (.invokevirtual 162, 3) := by decide +kernel
theorem dL_drawn_466 : decode cL_drawn 466 = .ok (.irem, 1) := by decide +kernel
theorem dL_drawn_467 : decode cL_drawn 467 = .ok (.iload 5, 2) := by decide +kernel
theorem dL_drawn_469 : decode cL_drawn 469 = .ok (.bipush 6, 2) := by decide +kernel
theorem dL_drawn_471 : decode cL_drawn 471 = .ok (.iushr, 1) := by decide +kernel
theorem dL_drawn_472 : decode cL_drawn 472 = .ok (.bipush 9, 2) := by decide +kernel
theorem dL_drawn_474 : decode cL_drawn 474 = .ok (.irem, 1) := by decide +kernel
theorem dL_drawn_475 : decode cL_drawn 475 = .ok (.invokestatic 169, 3) := by decide +kernel
theorem dL_drawn_478 : decode cL_drawn 478 = .ok (.istore 6, 2) := by decide +kernel
theorem dL_drawn_480 : decode cL_drawn 480 = .ok (.iload 6, 2) := by decide +kernel
theorem dL_drawn_482 : decode cL_drawn 482 = .ok (.ifCond .ge 12, 3) := by decide +kernel
theorem dL_drawn_485 : decode cL_drawn 485 = .ok (.iload 6, 2) := by decide +kernel
theorem dL_drawn_487 : decode cL_drawn 487 = .ok (.bipush (-3), 2) := by decide +kernel
theorem dL_drawn_489 : decode cL_drawn 489 = .ok (.if_icmp .eq 5, 3) := by decide +kernel
theorem dL_drawn_492 : decode cL_drawn 492 = .ok (.aconst_null, 1) := by decide +kernel
theorem dL_drawn_493 : decode cL_drawn 493 = .ok (.areturn, 1) := by decide +kernel
theorem dL_drawn_494 : decode cL_drawn 494 = .ok (.iinc 4 1, 3) := by decide +kernel
theorem dL_drawn_497 : decode cL_drawn 497 = .ok (.goto (-150), 3) := by decide +kernel
theorem dL_drawn_500 : decode cL_drawn 500 = .ok (.aload_n 2, 1) := by decide +kernel
theorem dL_drawn_501 : decode cL_drawn 501 = .ok (.areturn, 1) := by decide +kernel
theorem k_L_drawn : cardS yL_drawn (Cond.code yL_drawn cL_drawn 8 (some (.object "BellObservatory"))) 2 := ⟨qs_L_drawn, qc_L_drawn, qn_L, by decide +kernel, by decide +kernel, by decide +kernel⟩
set_option maxHeartbeats 4000000 in
set_option maxRecDepth 100000 in
theorem c_L_drawn (l : Launch) (hfl : l.stackTraces = false) (ev : LEv) (D : va_G) (g : Nat → ClassId) (q_bl : Nat) (a_bl : Nat → Int32) (o : XVal × (Nat → Int32)) (h : F_L_drawn ev.L ev.xs a_bl = some o) : MO l yL_drawn (Cond.code yL_drawn cL_drawn 8 (some (.object "BellObservatory"))) { frames := 11, cells := 363, slots := 3373, locals := 197 } (KF ev) D g [.ref ev.b, .ref q_bl] [(q_bl, .inl (g 3, 64, .inl a_bl))] (fun _ : (Nat → Nat) × (Nat → Nat → Nat) => True) (fun z => some (.ref (z.1 0))) (fun z => ([(q_bl, .inl (g 3, 64, .inl o.2))] ++ OW g z.1 z.2 o.1)) 363 3373 := by
  refine z_o_start (by decide) (Nat.le_of_ble_eq_true rfl) ?_
  intro p e s m args below meth c Q A X hr hin hK hA hQ
  refine z_lv (lv' := [(0, .ref ev.b), (1, .ref q_bl)]) rfl ?_
  refine z_new (ci := 11) [.null, .null, .null, .int 0, .null, .null, .null, .null, .null] X hA iw_X11 tyX11_ok qk_L_X11 qt_X11 qn_X11 rfl (fun j hj => by rcases (show j = 0 ∨ j = 1 ∨ j = 2 ∨ j = 3 ∨ j = 4 ∨ j = 5 ∨ j = 6 ∨ j = 7 ∨ j = 8 by omega) with rfl | rfl | rfl | rfl | rfl | rfl | rfl | rfl | rfl <;> rfl) (Nat.le_of_ble_eq_true rfl) (Nat.le_of_ble_eq_true rfl) dL_drawn_0 (fun q1 => ?_)
  refine z_dup X dL_drawn_3 rfl ?_
  refine z_init (wr := [(q_bl, .inl (g 3, 64, .inl a_bl))]) X hK.2.2.1 hA k_X11_init rfl (c_X11_init l D g q1) ql_L_X11_init dL_drawn_4 List.perm_append_comm ⟨Nat.le_of_ble_eq_true rfl, Nat.le_of_ble_eq_true rfl, rfl, rfl, Nat.le_of_ble_eq_true rfl, Nat.le_of_ble_eq_true rfl⟩ (Nat.le_of_ble_eq_true rfl) (fun ax ad h0 => ?_)
  subst h0
  refine z_perm (ws' := ([(q_bl, .inl (g 3, 64, .inl a_bl))] ++ OW g ax ad x0)) (List.Perm.refl _) ?_
  have H500 : ∀ (x : XVal) (a_bl : Nat → Int32), J_L_drawn_500 ev.L ev.xs x a_bl = some o → Z p l e { frames := 11, cells := 363, slots := 3373, locals := 197 } s m args below meth c Q 8 363 3373 (IW D A s ([(q_bl, .inl (g 3, 64, .inl a_bl))] ++ OW g ax ad x)) 500 [(2, .ref (ax 0))] [] := by
    intro x a_bl h
    refine z_aload_n X 0 dL_drawn_500 rfl rfl ?_
    cases h
    exact z_oaret X hQ (by first | exact Nat.le_of_ble_eq_true rfl | omega) (by first | exact Nat.le_of_ble_eq_true rfl | omega) hr (Or.inl ⟨_, rfl⟩) dL_drawn_501 (ax, ad) trivial rfl (List.Perm.refl _)
  have H347 : ∀ (n : Nat) (x4 : Int32) (x : XVal) (a_bl : Nat → Int32) (c347 s347 : Nat), c347 + 7 * n ≤ 363 → s347 + 42 * n ≤ 3373 → L_L_drawn_347 ev.L ev.xs n x4 x a_bl = some o → Z p l e { frames := 11, cells := 363, slots := 3373, locals := 197 } s m args below meth c Q 8 c347 s347 (IW D A s ([(q_bl, .inl (g 3, 64, .inl a_bl))] ++ OW g ax ad x)) 347 [(0, .ref ev.b), (2, .ref (ax 0)), (4, .int x4)] [] := by
    intro n
    induction n with
    | zero => intro x4 x a_bl c347 s347 _ _ h; cases h
    | succ n347 ih347 =>
      intro x4 x a_bl c347 s347 hc347 hs347 h
      have H478 : ∀ (t0 : Int32) (x4 : Int32) (x : XVal) (a_bl : Nat → Int32), J_L_drawn_478 ev.L ev.xs (L_L_drawn_347 ev.L ev.xs n347) t0 x4 x a_bl = some o → Z p l e { frames := 11, cells := 363, slots := 3373, locals := 197 } s m args below meth c Q 8 (c347 + 7) (s347 + 42) (IW D A s ([(q_bl, .inl (g 3, 64, .inl a_bl))] ++ OW g ax ad x)) 478 [(0, .ref ev.b), (2, .ref (ax 0)), (4, .int x4)] [.int t0] := by
        intro t0 x4 x a_bl h
        refine z_istore X [(6, .int t0), (0, .ref ev.b), (2, .ref (ax 0)), (4, .int x4)] dL_drawn_478 (by decide) rfl ?_
        refine z_iload X 0 dL_drawn_480 rfl ?_
        refine z_if_ge X 494 dL_drawn_482 (by decide) h (fun _ h => ?_) (fun _ h => ?_)
        · refine z_iinc X 3 [(4, .int (x4 + 1)), (6, .int t0), (0, .ref ev.b), (2, .ref (ax 0))] dL_drawn_494 rfl rfl (by decide) rfl ?_
          refine z_goto X 347 dL_drawn_497 (by decide) ?_
          refine z_sub (lv' := [(0, .ref ev.b), (2, .ref (ax 0)), (4, .int (x4 + 1))]) [2, 3, 0] rfl ?_
          exact ih347 (x4 + 1) x a_bl _ _ (by omega) (by omega) h
        · refine z_iload X 0 dL_drawn_485 rfl ?_
          refine z_bipush X ((-3) : Int32) dL_drawn_487 (by decide) ?_
          refine z_icmp_eq X 494 dL_drawn_489 (by decide) h (fun _ h => ?_) (fun _ h => ?_)
          · refine z_iinc X 3 [(4, .int (x4 + 1)), (6, .int t0), (0, .ref ev.b), (2, .ref (ax 0))] dL_drawn_494 rfl rfl (by decide) rfl ?_
            refine z_goto X 347 dL_drawn_497 (by decide) ?_
            refine z_sub (lv' := [(0, .ref ev.b), (2, .ref (ax 0)), (4, .int (x4 + 1))]) [2, 3, 0] rfl ?_
            exact ih347 (x4 + 1) x a_bl _ _ (by omega) (by omega) h
          · cases h
      have H423 : ∀ (x4 : Int32) (x5 : Int32) (x : XVal) (a_bl : Nat → Int32), J_L_drawn_423 ev.L ev.xs (L_L_drawn_347 ev.L ev.xs n347) x4 x5 x a_bl = some o → Z p l e { frames := 11, cells := 363, slots := 3373, locals := 197 } s m args below meth c Q 8 (c347 + 3) (s347 + 18) (IW D A s ([(q_bl, .inl (g 3, 64, .inl a_bl))] ++ OW g ax ad x)) 423 [(0, .ref ev.b), (2, .ref (ax 0)), (4, .int x4), (5, .int x5)] [] := by
        intro x4 x5 x a_bl h
        refine z_aload_n X 1 dL_drawn_423 rfl rfl ?_
        refine z_iload X 3 dL_drawn_424 rfl ?_
        refine z_iconst X (2 : Int32) dL_drawn_426 (by decide) ?_
        refine z_iushr X dL_drawn_427 ?_
        refine z_aload_n X 1 dL_drawn_428 rfl rfl ?_
        refine z_iconst X (2 : Int32) dL_drawn_429 (by decide) ?_
        obtain ⟨o13, e14, h⟩ := bnd_p h
        obtain ⟨hz15, h⟩ := grd_p h
        obtain ⟨wco13, wdo13, hNo13, bo13, do13, xo13⟩ := nx_account l hfl ev.ak ev.av ev.aS D g ad ax (2 : Int32) x o13.1 o13.2.1 o13.2.2 e14
        rw [xo13] at do13
        have fo13 := bk_E (E := [(q_bl, .inl (g 3, 64, .inl a_bl))]) bo13 do13
        refine z_exV (rest := [.int (ushr x5 (2 : Int32)), .ref (ax 0)]) (q0 := 1) (ci := 11) (ws' := ([(q_bl, .inl (g 3, 64, .inl a_bl))] ++ OW g ax ad x)) X hK.1 hA k_X11_account hNo13 ql_L_X11_account dL_drawn_430 fo13.1 fo13.2 rfl rfl rfl rfl rfl ⟨Nat.le_of_ble_eq_true rfl, Nat.le_of_ble_eq_true rfl, rfl, rfl, (Nat.le_trans (m := 363) (by first | exact Nat.le_of_ble_eq_true rfl | omega) (Nat.le_of_ble_eq_true rfl)), (Nat.le_trans (m := 3373) (by first | exact Nat.le_of_ble_eq_true rfl | omega) (Nat.le_of_ble_eq_true rfl))⟩ (Nat.le_of_ble_eq_true rfl) (fun _ => ?_) (fun q => absurd hz15 q)
        refine z_iremG X dL_drawn_433 h (fun h => ?_)
        refine z_iconst X (1 : Int32) dL_drawn_434 (by decide) ?_
        refine z_iload X 3 dL_drawn_435 rfl ?_
        refine z_bipush X (6 : Int32) dL_drawn_437 (by decide) ?_
        refine z_iushr X dL_drawn_439 ?_
        refine z_iconst X (5 : Int32) dL_drawn_440 (by decide) ?_
        refine z_irem X dL_drawn_441 (by decide) ?_
        refine z_iadd X dL_drawn_442 ?_
        refine z_iload X 3 dL_drawn_443 rfl ?_
        refine z_bipush X (9 : Int32) dL_drawn_445 (by decide) ?_
        refine z_iushr X dL_drawn_447 ?_
        refine z_iconst X (3 : Int32) dL_drawn_448 (by decide) ?_
        refine z_irem X dL_drawn_449 (by decide) ?_
        obtain ⟨o16, e17, h⟩ := bnd_p h
        have f18 := bk_appP (X := OW g ax ad x) (X' := OW g ax ad o16.2) (perm_of (n := 1) (E := [(q_bl, .inl (g 3, 64, .inl a_bl))]) (wc := []) (wr := [(q_bl, .inl (g 3, 64, .inl a_bl))]) [] [0] rfl rfl rfl (by decide +kernel)) (perm_of (n := 1) (E := [(q_bl, .inl (g 3, 64, .inl a_bl))]) (wc := []) (wr := [(q_bl, .inl (g 3, 64, .inl a_bl))]) [] [0] rfl rfl rfl (by decide +kernel)) rfl OW_fst
        refine z_gSH (rest := []) (ws' := ([(q_bl, .inl (g 3, 64, .inl a_bl))] ++ OW g ax ad o16.2)) X (KF_ok ev) (kc_of (KF_ok ev) (fun _ _ _ q => q) hK hA f18.1) hA k_L_ring (c_L_ring l hfl ev D g ad ax ((ushr x5 (2 : Int32)) - (ushr x5 (2 : Int32)) / o13.2.1 * o13.2.1) ((1 : Int32) + ((ushr x5 (6 : Int32)) - (ushr x5 (6 : Int32)) / (5 : Int32) * (5 : Int32))) ((ushr x5 (9 : Int32)) - (ushr x5 (9 : Int32)) / (3 : Int32) * (3 : Int32)) x o16 e17) ql_L_L_ring dL_drawn_450 f18.1 f18.2 rfl rfl ⟨Nat.le_of_ble_eq_true rfl, Nat.le_of_ble_eq_true rfl, rfl, rfl, (Nat.le_trans (m := 363) (by first | exact Nat.le_of_ble_eq_true rfl | omega) (Nat.le_of_ble_eq_true rfl)), (Nat.le_trans (m := 3373) (by first | exact Nat.le_of_ble_eq_true rfl | omega) (Nat.le_of_ble_eq_true rfl))⟩ (Nat.le_of_ble_eq_true rfl) ?_
        refine z_goto X 478 dL_drawn_453 (by decide) ?_
        refine z_widen (k := (c347 + 7)) (n := (s347 + 42)) (by first | exact Nat.le_of_ble_eq_true rfl | omega) (by first | exact Nat.le_of_ble_eq_true rfl | omega) ?_
        refine z_sub (lv' := [(0, .ref ev.b), (2, .ref (ax 0)), (4, .int x4)]) [0, 1, 2] rfl ?_
        exact H478 o16.1 x4 o16.2 a_bl h
      refine z_iload X 2 dL_drawn_347 rfl ?_
      refine z_bipush X (6 : Int32) dL_drawn_349 (by decide) ?_
      refine z_icmp_ge X 500 dL_drawn_351 (by decide) h (fun _ h => ?_) (fun _ h => ?_)
      · refine z_widen (k := 363) (n := 3373) (by omega) (by omega) ?_
        refine z_widen (k := 363) (n := 3373) (by first | exact Nat.le_of_ble_eq_true rfl | omega) (by first | exact Nat.le_of_ble_eq_true rfl | omega) ?_
        refine z_sub (lv' := [(2, .ref (ax 0))]) [1] rfl ?_
        exact H500 x a_bl h
      · refine z_aload_n X 1 dL_drawn_354 rfl rfl ?_
        refine z_iconst X (2 : Int32) dL_drawn_355 (by decide) ?_
        obtain ⟨o4, e5, h⟩ := bnd_p h
        obtain ⟨hz6, h⟩ := grd_p h
        obtain ⟨wco4, wdo4, hNo4, bo4, do4, xo4⟩ := nx_account l hfl ev.ak ev.av ev.aS D g ad ax (2 : Int32) x o4.1 o4.2.1 o4.2.2 e5
        rw [xo4] at do4
        have fo4 := bk_E (E := [(q_bl, .inl (g 3, 64, .inl a_bl))]) bo4 do4
        refine z_exV (rest := []) (q0 := 1) (ci := 11) (ws' := ([(q_bl, .inl (g 3, 64, .inl a_bl))] ++ OW g ax ad x)) X hK.1 hA k_X11_account hNo4 ql_L_X11_account dL_drawn_356 fo4.1 fo4.2 rfl rfl rfl rfl rfl ⟨Nat.le_of_ble_eq_true rfl, Nat.le_of_ble_eq_true rfl, rfl, rfl, (Nat.le_trans (m := 363) (by first | exact Nat.le_of_ble_eq_true rfl | omega) (Nat.le_of_ble_eq_true rfl)), (Nat.le_trans (m := 3373) (by first | exact Nat.le_of_ble_eq_true rfl | omega) (Nat.le_of_ble_eq_true rfl))⟩ (Nat.le_of_ble_eq_true rfl) (fun _ => ?_) (fun q => absurd hz6 q)
        refine z_if_le X 500 dL_drawn_359 (by decide) h (fun _ h => ?_) (fun _ h => ?_)
        · refine z_widen (k := 363) (n := 3373) (by omega) (by omega) ?_
          refine z_widen (k := 363) (n := 3373) (by first | exact Nat.le_of_ble_eq_true rfl | omega) (by first | exact Nat.le_of_ble_eq_true rfl | omega) ?_
          refine z_sub (lv' := [(2, .ref (ax 0))]) [1] rfl ?_
          exact H500 x a_bl h
        · refine z_aload_n X 0 dL_drawn_362 rfl rfl ?_
          refine z_bipush X (18 : Int32) dL_drawn_363 (by decide) ?_
          refine z_iload X 2 dL_drawn_365 rfl ?_
          refine z_iadd X dL_drawn_367 ?_
          obtain ⟨o7, e8, h⟩ := bnd_p h
          have f9 : bkc ([(q_bl, .inl (g 3, 64, .inl a_bl))] ++ OW g ax ad x) [] ∧ bk ([(q_bl, .inl (g 3, 64, .inl a_bl))] ++ OW g ax ad x) ([(q_bl, .inl (g 3, 64, .inl a_bl))] ++ OW g ax ad x) [] [] := ⟨bkc_nil, bk_nil⟩
          refine z_gS (rest := []) (ws' := ([(q_bl, .inl (g 3, 64, .inl a_bl))] ++ OW g ax ad x)) X (KF_ok ev) (kc_of (KF_ok ev) (fun _ _ _ q => q) hK hA f9.1) hA k_L_cell (c_L_cell l hfl ev D g ((18 : Int32) + x4) o7 e8) ql_L_L_cell dL_drawn_368 f9.1 f9.2 rfl rfl ⟨Nat.le_of_ble_eq_true rfl, Nat.le_of_ble_eq_true rfl, rfl, rfl, (Nat.le_trans (m := 363) (by first | exact Nat.le_of_ble_eq_true rfl | omega) (Nat.le_of_ble_eq_true rfl)), (Nat.le_trans (m := 3373) (by first | exact Nat.le_of_ble_eq_true rfl | omega) (Nat.le_of_ble_eq_true rfl))⟩ (Nat.le_of_ble_eq_true rfl) ?_
          refine z_iconst X (1 : Int32) dL_drawn_371 (by decide) ?_
          refine z_iushr X dL_drawn_372 ?_
          refine z_istore X [(5, .int (ushr o7 (1 : Int32))), (0, .ref ev.b), (2, .ref (ax 0)), (4, .int x4)] dL_drawn_373 (by decide) rfl ?_
          refine z_iload X 0 dL_drawn_375 rfl ?_
          refine z_iconst X (3 : Int32) dL_drawn_377 (by decide) ?_
          refine z_irem X dL_drawn_378 (by decide) ?_
          refine z_if_ne X 398 dL_drawn_379 (by decide) h (fun _ h => ?_) (fun _ h => ?_)
          · refine z_aload_n X 2 dL_drawn_382 rfl rfl ?_
            refine z_iconst X (1 : Int32) dL_drawn_383 (by decide) ?_
            refine z_iload X 0 dL_drawn_384 rfl ?_
            refine z_iconst X (2 : Int32) dL_drawn_386 (by decide) ?_
            refine z_iushr X dL_drawn_387 ?_
            refine z_bipush X (30 : Int32) dL_drawn_388 (by decide) ?_
            refine z_irem X dL_drawn_390 (by decide) ?_
            refine z_iadd X dL_drawn_391 ?_
            obtain ⟨o10, e11, h⟩ := bnd_p h
            have f12 := bk_appP (X := OW g ax ad x) (X' := OW g ax ad o10.2) (perm_of (n := 1) (E := [(q_bl, .inl (g 3, 64, .inl a_bl))]) (wc := []) (wr := [(q_bl, .inl (g 3, 64, .inl a_bl))]) [] [0] rfl rfl rfl (by decide +kernel)) (perm_of (n := 1) (E := [(q_bl, .inl (g 3, 64, .inl a_bl))]) (wc := []) (wr := [(q_bl, .inl (g 3, 64, .inl a_bl))]) [] [0] rfl rfl rfl (by decide +kernel)) rfl OW_fst
            refine z_gSH (rest := []) (ws' := ([(q_bl, .inl (g 3, 64, .inl a_bl))] ++ OW g ax ad o10.2)) X (KF_ok ev) (kc_of (KF_ok ev) (fun _ _ _ q => q) hK hA f12.1) hA k_L_pass (c_L_pass l hfl ev D g ad ax ((1 : Int32) + ((ushr (ushr o7 (1 : Int32)) (2 : Int32)) - (ushr (ushr o7 (1 : Int32)) (2 : Int32)) / (30 : Int32) * (30 : Int32))) x o10 e11) ql_L_L_pass dL_drawn_392 f12.1 f12.2 rfl rfl ⟨Nat.le_of_ble_eq_true rfl, Nat.le_of_ble_eq_true rfl, rfl, rfl, (Nat.le_trans (m := 363) (by first | exact Nat.le_of_ble_eq_true rfl | omega) (Nat.le_of_ble_eq_true rfl)), (Nat.le_trans (m := 3373) (by first | exact Nat.le_of_ble_eq_true rfl | omega) (Nat.le_of_ble_eq_true rfl))⟩ (Nat.le_of_ble_eq_true rfl) ?_
            refine z_goto X 478 dL_drawn_395 (by decide) ?_
            refine z_widen (k := (c347 + 7)) (n := (s347 + 42)) (by first | exact Nat.le_of_ble_eq_true rfl | omega) (by first | exact Nat.le_of_ble_eq_true rfl | omega) ?_
            refine z_sub (lv' := [(0, .ref ev.b), (2, .ref (ax 0)), (4, .int x4)]) [1, 2, 3] rfl ?_
            exact H478 o10.1 x4 o10.2 a_bl h
          · refine z_iload X 0 dL_drawn_398 rfl ?_
            refine z_iconst X (3 : Int32) dL_drawn_400 (by decide) ?_
            refine z_irem X dL_drawn_401 (by decide) ?_
            refine z_iconst X (1 : Int32) dL_drawn_402 (by decide) ?_
            refine z_icmp_eq X 423 dL_drawn_403 (by decide) h (fun _ h => ?_) (fun _ h => ?_)
            · refine z_widen (k := (c347 + 3)) (n := (s347 + 18)) (by first | exact Nat.le_of_ble_eq_true rfl | omega) (by first | exact Nat.le_of_ble_eq_true rfl | omega) ?_
              refine z_sub (lv' := [(0, .ref ev.b), (2, .ref (ax 0)), (4, .int x4), (5, .int (ushr o7 (1 : Int32)))]) [1, 2, 3, 0] rfl ?_
              exact H423 x4 (ushr o7 (1 : Int32)) x a_bl h
            · refine z_aload_n X 2 dL_drawn_406 rfl rfl ?_
              refine z_iconst X (4 : Int32) dL_drawn_407 (by decide) ?_
              obtain ⟨o19, e20, h⟩ := bnd_p h
              obtain ⟨hz21, h⟩ := grd_p h
              obtain ⟨wco19, wdo19, hNo19, bo19, do19, xo19⟩ := nx_account l hfl ev.ak ev.av ev.aS D g ad ax (4 : Int32) x o19.1 o19.2.1 o19.2.2 e20
              rw [xo19] at do19
              have fo19 := bk_E (E := [(q_bl, .inl (g 3, 64, .inl a_bl))]) bo19 do19
              refine z_exV (rest := []) (q0 := 1) (ci := 11) (ws' := ([(q_bl, .inl (g 3, 64, .inl a_bl))] ++ OW g ax ad x)) X hK.1 hA k_X11_account hNo19 ql_L_X11_account dL_drawn_408 fo19.1 fo19.2 rfl rfl rfl rfl rfl ⟨Nat.le_of_ble_eq_true rfl, Nat.le_of_ble_eq_true rfl, rfl, rfl, (Nat.le_trans (m := 363) (by first | exact Nat.le_of_ble_eq_true rfl | omega) (Nat.le_of_ble_eq_true rfl)), (Nat.le_trans (m := 3373) (by first | exact Nat.le_of_ble_eq_true rfl | omega) (Nat.le_of_ble_eq_true rfl))⟩ (Nat.le_of_ble_eq_true rfl) (fun _ => ?_) (fun q => absurd hz21 q)
              refine z_if_eq X 423 dL_drawn_411 (by decide) h (fun _ h => ?_) (fun _ h => ?_)
              · refine z_widen (k := (c347 + 3)) (n := (s347 + 18)) (by first | exact Nat.le_of_ble_eq_true rfl | omega) (by first | exact Nat.le_of_ble_eq_true rfl | omega) ?_
                refine z_sub (lv' := [(0, .ref ev.b), (2, .ref (ax 0)), (4, .int x4), (5, .int (ushr o7 (1 : Int32)))]) [1, 2, 3, 0] rfl ?_
                exact H423 x4 (ushr o7 (1 : Int32)) x a_bl h
              · refine z_aload_n X 2 dL_drawn_414 rfl rfl ?_
                refine z_bipush X (10 : Int32) dL_drawn_415 (by decide) ?_
                obtain ⟨o22, e23, h⟩ := bnd_p h
                obtain ⟨hz24, h⟩ := grd_p h
                obtain ⟨wco22, wdo22, hNo22, bo22, do22, xo22⟩ := nx_account l hfl ev.ak ev.av ev.aS D g ad ax (10 : Int32) x o22.1 o22.2.1 o22.2.2 e23
                rw [xo22] at do22
                have fo22 := bk_E (E := [(q_bl, .inl (g 3, 64, .inl a_bl))]) bo22 do22
                refine z_exV (rest := []) (q0 := 1) (ci := 11) (ws' := ([(q_bl, .inl (g 3, 64, .inl a_bl))] ++ OW g ax ad x)) X hK.1 hA k_X11_account hNo22 ql_L_X11_account dL_drawn_417 fo22.1 fo22.2 rfl rfl rfl rfl rfl ⟨Nat.le_of_ble_eq_true rfl, Nat.le_of_ble_eq_true rfl, rfl, rfl, (Nat.le_trans (m := 363) (by first | exact Nat.le_of_ble_eq_true rfl | omega) (Nat.le_of_ble_eq_true rfl)), (Nat.le_trans (m := 3373) (by first | exact Nat.le_of_ble_eq_true rfl | omega) (Nat.le_of_ble_eq_true rfl))⟩ (Nat.le_of_ble_eq_true rfl) (fun _ => ?_) (fun q => absurd hz24 q)
                refine z_if_ge X 456 dL_drawn_420 (by decide) h (fun _ h => ?_) (fun _ h => ?_)
                · refine z_aload_n X 2 dL_drawn_456 rfl rfl ?_
                  refine z_iload X 0 dL_drawn_457 rfl ?_
                  refine z_iconst X (2 : Int32) dL_drawn_459 (by decide) ?_
                  refine z_iushr X dL_drawn_460 ?_
                  refine z_aload_n X 2 dL_drawn_461 rfl rfl ?_
                  refine z_iconst X (4 : Int32) dL_drawn_462 (by decide) ?_
                  obtain ⟨o25, e26, h⟩ := bnd_p h
                  obtain ⟨hz27, h⟩ := grd_p h
                  obtain ⟨wco25, wdo25, hNo25, bo25, do25, xo25⟩ := nx_account l hfl ev.ak ev.av ev.aS D g ad ax (4 : Int32) x o25.1 o25.2.1 o25.2.2 e26
                  rw [xo25] at do25
                  have fo25 := bk_E (E := [(q_bl, .inl (g 3, 64, .inl a_bl))]) bo25 do25
                  refine z_exV (rest := [.int (ushr (ushr o7 (1 : Int32)) (2 : Int32)), .ref (ax 0)]) (q0 := 1) (ci := 11) (ws' := ([(q_bl, .inl (g 3, 64, .inl a_bl))] ++ OW g ax ad x)) X hK.1 hA k_X11_account hNo25 ql_L_X11_account dL_drawn_463 fo25.1 fo25.2 rfl rfl rfl rfl rfl ⟨Nat.le_of_ble_eq_true rfl, Nat.le_of_ble_eq_true rfl, rfl, rfl, (Nat.le_trans (m := 363) (by first | exact Nat.le_of_ble_eq_true rfl | omega) (Nat.le_of_ble_eq_true rfl)), (Nat.le_trans (m := 3373) (by first | exact Nat.le_of_ble_eq_true rfl | omega) (Nat.le_of_ble_eq_true rfl))⟩ (Nat.le_of_ble_eq_true rfl) (fun _ => ?_) (fun q => absurd hz27 q)
                  refine z_iremG X dL_drawn_466 h (fun h => ?_)
                  refine z_iload X 0 dL_drawn_467 rfl ?_
                  refine z_bipush X (6 : Int32) dL_drawn_469 (by decide) ?_
                  refine z_iushr X dL_drawn_471 ?_
                  refine z_bipush X (9 : Int32) dL_drawn_472 (by decide) ?_
                  refine z_irem X dL_drawn_474 (by decide) ?_
                  obtain ⟨o28, e29, h⟩ := bnd_p h
                  have f30 := bk_appP (X := OW g ax ad x) (X' := OW g ax ad o28.2) (perm_of (n := 1) (E := [(q_bl, .inl (g 3, 64, .inl a_bl))]) (wc := []) (wr := [(q_bl, .inl (g 3, 64, .inl a_bl))]) [] [0] rfl rfl rfl (by decide +kernel)) (perm_of (n := 1) (E := [(q_bl, .inl (g 3, 64, .inl a_bl))]) (wc := []) (wr := [(q_bl, .inl (g 3, 64, .inl a_bl))]) [] [0] rfl rfl rfl (by decide +kernel)) rfl OW_fst
                  refine z_gSH (rest := []) (ws' := ([(q_bl, .inl (g 3, 64, .inl a_bl))] ++ OW g ax ad o28.2)) X (KF_ok ev) (kc_of (KF_ok ev) (fun _ _ _ q => q) hK hA f30.1) hA k_L_tell (c_L_tell l hfl ev D g ad ax ((ushr (ushr o7 (1 : Int32)) (2 : Int32)) - (ushr (ushr o7 (1 : Int32)) (2 : Int32)) / o25.2.1 * o25.2.1) ((ushr (ushr o7 (1 : Int32)) (6 : Int32)) - (ushr (ushr o7 (1 : Int32)) (6 : Int32)) / (9 : Int32) * (9 : Int32)) x o28 e29) ql_L_L_tell dL_drawn_475 f30.1 f30.2 rfl rfl ⟨Nat.le_of_ble_eq_true rfl, Nat.le_of_ble_eq_true rfl, rfl, rfl, (Nat.le_trans (m := 363) (by first | exact Nat.le_of_ble_eq_true rfl | omega) (Nat.le_of_ble_eq_true rfl)), (Nat.le_trans (m := 3373) (by first | exact Nat.le_of_ble_eq_true rfl | omega) (Nat.le_of_ble_eq_true rfl))⟩ (Nat.le_of_ble_eq_true rfl) ?_
                  refine z_widen (k := (c347 + 7)) (n := (s347 + 42)) (by first | exact Nat.le_of_ble_eq_true rfl | omega) (by first | exact Nat.le_of_ble_eq_true rfl | omega) ?_
                  refine z_sub (lv' := [(0, .ref ev.b), (2, .ref (ax 0)), (4, .int x4)]) [1, 2, 3] rfl ?_
                  exact H478 o28.1 x4 o28.2 a_bl h
                · refine z_widen (k := (c347 + 3)) (n := (s347 + 18)) (by first | exact Nat.le_of_ble_eq_true rfl | omega) (by first | exact Nat.le_of_ble_eq_true rfl | omega) ?_
                  refine z_sub (lv' := [(0, .ref ev.b), (2, .ref (ax 0)), (4, .int x4), (5, .int (ushr o7 (1 : Int32)))]) [1, 2, 3, 0] rfl ?_
                  exact H423 x4 (ushr o7 (1 : Int32)) x a_bl h
  have H336 : ∀ (x : XVal) (a_bl : Nat → Int32), J_L_drawn_336 ev.L ev.xs x a_bl = some o → Z p l e { frames := 11, cells := 363, slots := 3373, locals := 197 } s m args below meth c Q 8 314 3079 (IW D A s ([(q_bl, .inl (g 3, 64, .inl a_bl))] ++ OW g ax ad x)) 336 [] [] := by
    intro x a_bl h
    cases h
  have H278 : ∀ (n : Nat) (x4 : Int32) (x : XVal) (a_bl : Nat → Int32) (c278 s278 : Nat), c278 + 5 * n ≤ 314 → s278 + 30 * n ≤ 3079 → L_L_drawn_278 ev.L ev.xs n x4 x a_bl = some o → Z p l e { frames := 11, cells := 363, slots := 3373, locals := 197 } s m args below meth c Q 8 c278 s278 (IW D A s ([(q_bl, .inl (g 3, 64, .inl a_bl))] ++ OW g ax ad x)) 278 [(0, .ref ev.b), (2, .ref (ax 0)), (4, .int x4)] [] := by
    intro n
    induction n with
    | zero => intro x4 x a_bl c278 s278 _ _ h; cases h
    | succ n278 ih278 =>
      intro x4 x a_bl c278 s278 hc278 hs278 h
      refine z_iload X 2 dL_drawn_278 rfl ?_
      refine z_iconst X (3 : Int32) dL_drawn_280 (by decide) ?_
      refine z_icmp_ge X 344 dL_drawn_281 (by decide) h (fun _ h => ?_) (fun _ h => ?_)
      · refine z_widen (k := 314) (n := 3079) (by omega) (by omega) ?_
        refine z_iconst X (0 : Int32) dL_drawn_344 (by decide) ?_
        refine z_istore X [(4, .int (0 : Int32)), (0, .ref ev.b), (2, .ref (ax 0))] dL_drawn_345 (by decide) rfl ?_
        refine z_sub (lv' := [(0, .ref ev.b), (2, .ref (ax 0)), (4, .int (0 : Int32))]) [1, 2, 0] rfl ?_
        exact H347 7 (0 : Int32) x a_bl _ _ (by first | exact Nat.le_of_ble_eq_true rfl | omega) (by first | exact Nat.le_of_ble_eq_true rfl | omega) h
      · refine z_aload_n X 1 dL_drawn_284 rfl rfl ?_
        refine z_aload_n X 0 dL_drawn_285 rfl rfl ?_
        refine z_bipush X (15 : Int32) dL_drawn_286 (by decide) ?_
        refine z_iload X 2 dL_drawn_288 rfl ?_
        refine z_iadd X dL_drawn_290 ?_
        obtain ⟨o31, e32, h⟩ := bnd_p h
        have f33 : bkc ([(q_bl, .inl (g 3, 64, .inl a_bl))] ++ OW g ax ad x) [] ∧ bk ([(q_bl, .inl (g 3, 64, .inl a_bl))] ++ OW g ax ad x) ([(q_bl, .inl (g 3, 64, .inl a_bl))] ++ OW g ax ad x) [] [] := ⟨bkc_nil, bk_nil⟩
        refine z_gS (rest := [.ref (ax 0)]) (ws' := ([(q_bl, .inl (g 3, 64, .inl a_bl))] ++ OW g ax ad x)) X (KF_ok ev) (kc_of (KF_ok ev) (fun _ _ _ q => q) hK hA f33.1) hA k_L_cell (c_L_cell l hfl ev D g ((15 : Int32) + x4) o31 e32) ql_L_L_cell dL_drawn_291 f33.1 f33.2 rfl rfl ⟨Nat.le_of_ble_eq_true rfl, Nat.le_of_ble_eq_true rfl, rfl, rfl, (Nat.le_trans (m := 363) (by first | exact Nat.le_of_ble_eq_true rfl | omega) (Nat.le_of_ble_eq_true rfl)), (Nat.le_trans (m := 3373) (by first | exact Nat.le_of_ble_eq_true rfl | omega) (Nat.le_of_ble_eq_true rfl))⟩ (Nat.le_of_ble_eq_true rfl) ?_
        refine z_iconst X (1 : Int32) dL_drawn_294 (by decide) ?_
        refine z_iushr X dL_drawn_295 ?_
        refine z_bipush X (64 : Int32) dL_drawn_296 (by decide) ?_
        refine z_irem X dL_drawn_298 (by decide) ?_
        obtain ⟨o34, e35, h⟩ := bnd_p h
        have f36 := bk_appP (X := OW g ax ad x) (X' := OW g ax ad o34.2) (perm_of (n := 1) (E := [(q_bl, .inl (g 3, 64, .inl a_bl))]) (wc := []) (wr := [(q_bl, .inl (g 3, 64, .inl a_bl))]) [] [0] rfl rfl rfl (by decide +kernel)) (perm_of (n := 1) (E := [(q_bl, .inl (g 3, 64, .inl a_bl))]) (wc := []) (wr := [(q_bl, .inl (g 3, 64, .inl a_bl))]) [] [0] rfl rfl rfl (by decide +kernel)) rfl OW_fst
        refine z_gSH (rest := []) (ws' := ([(q_bl, .inl (g 3, 64, .inl a_bl))] ++ OW g ax ad o34.2)) X (KF_ok ev) (kc_of (KF_ok ev) (fun _ _ _ q => q) hK hA f36.1) hA k_L_post (c_L_post l hfl ev D g ad ax ((ushr o31 (1 : Int32)) - (ushr o31 (1 : Int32)) / (64 : Int32) * (64 : Int32)) x o34 e35) ql_L_L_post dL_drawn_299 f36.1 f36.2 rfl rfl ⟨Nat.le_of_ble_eq_true rfl, Nat.le_of_ble_eq_true rfl, rfl, rfl, (Nat.le_trans (m := 363) (by first | exact Nat.le_of_ble_eq_true rfl | omega) (Nat.le_of_ble_eq_true rfl)), (Nat.le_trans (m := 3373) (by first | exact Nat.le_of_ble_eq_true rfl | omega) (Nat.le_of_ble_eq_true rfl))⟩ (Nat.le_of_ble_eq_true rfl) ?_
        refine z_istore X [(5, .int o34.1), (0, .ref ev.b), (2, .ref (ax 0)), (4, .int x4)] dL_drawn_302 (by decide) rfl ?_
        refine z_iload X 0 dL_drawn_304 rfl ?_
        refine z_iconst X ((-1) : Int32) dL_drawn_306 (by decide) ?_
        refine z_icmp_eq X 336 dL_drawn_307 (by decide) h (fun _ h => ?_) (fun _ h => ?_)
        · refine z_widen (k := 314) (n := 3079) (by omega) (by omega) ?_
          refine z_widen (k := 314) (n := 3079) (by first | exact Nat.le_of_ble_eq_true rfl | omega) (by first | exact Nat.le_of_ble_eq_true rfl | omega) ?_
          refine z_sub (lv' := []) [] rfl ?_
          exact H336 o34.2 a_bl h
        · refine z_iload X 0 dL_drawn_310 rfl ?_
          refine z_bipush X ((-2) : Int32) dL_drawn_312 (by decide) ?_
          refine z_icmp_ne X 338 dL_drawn_314 (by decide) h (fun _ h => ?_) (fun _ h => ?_)
          · refine z_aload_n X 2 dL_drawn_317 rfl rfl ?_
            refine z_iconst X (0 : Int32) dL_drawn_318 (by decide) ?_
            obtain ⟨o37, e38, h⟩ := bnd_p h
            have f39 := bk_appP (X := OW g ax ad o34.2) (X' := OW g ax ad o34.2) (perm_of (n := 1) (E := [(q_bl, .inl (g 3, 64, .inl a_bl))]) (wc := []) (wr := [(q_bl, .inl (g 3, 64, .inl a_bl))]) [] [0] rfl rfl rfl (by decide +kernel)) (perm_of (n := 1) (E := [(q_bl, .inl (g 3, 64, .inl a_bl))]) (wc := []) (wr := [(q_bl, .inl (g 3, 64, .inl a_bl))]) [] [0] rfl rfl rfl (by decide +kernel)) rfl OW_fst
            refine z_gSH (rest := []) (ws' := ([(q_bl, .inl (g 3, 64, .inl a_bl))] ++ OW g ax ad o34.2)) X (KF_ok ev) (kc_of (KF_ok ev) (fun _ _ _ q => q) hK hA f39.1) hA k_L_refusal (c_L_refusal l hfl ev D g ad ax (0 : Int32) o34.2 o37 e38) ql_L_L_refusal dL_drawn_319 f39.1 f39.2 rfl rfl ⟨Nat.le_of_ble_eq_true rfl, Nat.le_of_ble_eq_true rfl, rfl, rfl, (Nat.le_trans (m := 363) (by first | exact Nat.le_of_ble_eq_true rfl | omega) (Nat.le_of_ble_eq_true rfl)), (Nat.le_trans (m := 3373) (by first | exact Nat.le_of_ble_eq_true rfl | omega) (Nat.le_of_ble_eq_true rfl))⟩ (Nat.le_of_ble_eq_true rfl) ?_
            refine z_iconst X (2 : Int32) dL_drawn_322 (by decide) ?_
            refine z_icmp_eq X 338 dL_drawn_323 (by decide) h (fun _ h => ?_) (fun _ h => ?_)
            · refine z_iinc X 3 [(4, .int (x4 + 1)), (5, .int o34.1), (0, .ref ev.b), (2, .ref (ax 0))] dL_drawn_338 rfl rfl (by decide) rfl ?_
              refine z_goto X 278 dL_drawn_341 (by decide) ?_
              refine z_sub (lv' := [(0, .ref ev.b), (2, .ref (ax 0)), (4, .int (x4 + 1))]) [2, 3, 0] rfl ?_
              exact ih278 (x4 + 1) o34.2 a_bl _ _ (by omega) (by omega) h
            · refine z_aload_n X 2 dL_drawn_326 rfl rfl ?_
              refine z_iconst X (0 : Int32) dL_drawn_327 (by decide) ?_
              obtain ⟨o40, e41, h⟩ := bnd_p h
              have f42 := bk_appP (X := OW g ax ad o34.2) (X' := OW g ax ad o34.2) (perm_of (n := 1) (E := [(q_bl, .inl (g 3, 64, .inl a_bl))]) (wc := []) (wr := [(q_bl, .inl (g 3, 64, .inl a_bl))]) [] [0] rfl rfl rfl (by decide +kernel)) (perm_of (n := 1) (E := [(q_bl, .inl (g 3, 64, .inl a_bl))]) (wc := []) (wr := [(q_bl, .inl (g 3, 64, .inl a_bl))]) [] [0] rfl rfl rfl (by decide +kernel)) rfl OW_fst
              refine z_gSH (rest := []) (ws' := ([(q_bl, .inl (g 3, 64, .inl a_bl))] ++ OW g ax ad o34.2)) X (KF_ok ev) (kc_of (KF_ok ev) (fun _ _ _ q => q) hK hA f42.1) hA k_L_refusal (c_L_refusal l hfl ev D g ad ax (0 : Int32) o34.2 o40 e41) ql_L_L_refusal dL_drawn_328 f42.1 f42.2 rfl rfl ⟨Nat.le_of_ble_eq_true rfl, Nat.le_of_ble_eq_true rfl, rfl, rfl, (Nat.le_trans (m := 363) (by first | exact Nat.le_of_ble_eq_true rfl | omega) (Nat.le_of_ble_eq_true rfl)), (Nat.le_trans (m := 3373) (by first | exact Nat.le_of_ble_eq_true rfl | omega) (Nat.le_of_ble_eq_true rfl))⟩ (Nat.le_of_ble_eq_true rfl) ?_
              refine z_bipush X (7 : Int32) dL_drawn_331 (by decide) ?_
              refine z_icmp_eq X 338 dL_drawn_333 (by decide) h (fun _ h => ?_) (fun _ h => ?_)
              · refine z_iinc X 3 [(4, .int (x4 + 1)), (5, .int o34.1), (0, .ref ev.b), (2, .ref (ax 0))] dL_drawn_338 rfl rfl (by decide) rfl ?_
                refine z_goto X 278 dL_drawn_341 (by decide) ?_
                refine z_sub (lv' := [(0, .ref ev.b), (2, .ref (ax 0)), (4, .int (x4 + 1))]) [2, 3, 0] rfl ?_
                exact ih278 (x4 + 1) o34.2 a_bl _ _ (by omega) (by omega) h
              · refine z_widen (k := 314) (n := 3079) (by omega) (by omega) ?_
                refine z_widen (k := 314) (n := 3079) (by first | exact Nat.le_of_ble_eq_true rfl | omega) (by first | exact Nat.le_of_ble_eq_true rfl | omega) ?_
                refine z_sub (lv' := []) [] rfl ?_
                exact H336 o34.2 a_bl h
          · refine z_iinc X 3 [(4, .int (x4 + 1)), (5, .int o34.1), (0, .ref ev.b), (2, .ref (ax 0))] dL_drawn_338 rfl rfl (by decide) rfl ?_
            refine z_goto X 278 dL_drawn_341 (by decide) ?_
            refine z_sub (lv' := [(0, .ref ev.b), (2, .ref (ax 0)), (4, .int (x4 + 1))]) [2, 3, 0] rfl ?_
            exact ih278 (x4 + 1) o34.2 a_bl _ _ (by omega) (by omega) h
  have H225 : ∀ (n : Nat) (x4 : Int32) (x : XVal) (a_bl : Nat → Int32) (c225 s225 : Nat), c225 + 3 * n ≤ 294 → s225 + 18 * n ≤ 2959 → L_L_drawn_225 ev.L ev.xs n x4 x a_bl = some o → Z p l e { frames := 11, cells := 363, slots := 3373, locals := 197 } s m args below meth c Q 8 c225 s225 (IW D A s ([(q_bl, .inl (g 3, 64, .inl a_bl))] ++ OW g ax ad x)) 225 [(0, .ref ev.b), (2, .ref (ax 0)), (4, .int x4)] [] := by
    intro n
    induction n with
    | zero => intro x4 x a_bl c225 s225 _ _ h; cases h
    | succ n225 ih225 =>
      intro x4 x a_bl c225 s225 hc225 hs225 h
      refine z_iload X 2 dL_drawn_225 rfl ?_
      refine z_iconst X (3 : Int32) dL_drawn_227 (by decide) ?_
      refine z_icmp_ge X 275 dL_drawn_228 (by decide) h (fun _ h => ?_) (fun _ h => ?_)
      · refine z_widen (k := 294) (n := 2959) (by omega) (by omega) ?_
        refine z_iconst X (0 : Int32) dL_drawn_275 (by decide) ?_
        refine z_istore X [(4, .int (0 : Int32)), (0, .ref ev.b), (2, .ref (ax 0))] dL_drawn_276 (by decide) rfl ?_
        refine z_sub (lv' := [(0, .ref ev.b), (2, .ref (ax 0)), (4, .int (0 : Int32))]) [1, 2, 0] rfl ?_
        exact H278 4 (0 : Int32) x a_bl _ _ (by first | exact Nat.le_of_ble_eq_true rfl | omega) (by first | exact Nat.le_of_ble_eq_true rfl | omega) h
      · refine z_aload_n X 0 dL_drawn_231 rfl rfl ?_
        refine z_bipush X (12 : Int32) dL_drawn_232 (by decide) ?_
        refine z_iload X 2 dL_drawn_234 rfl ?_
        refine z_iadd X dL_drawn_236 ?_
        obtain ⟨o43, e44, h⟩ := bnd_p h
        have f45 : bkc ([(q_bl, .inl (g 3, 64, .inl a_bl))] ++ OW g ax ad x) [] ∧ bk ([(q_bl, .inl (g 3, 64, .inl a_bl))] ++ OW g ax ad x) ([(q_bl, .inl (g 3, 64, .inl a_bl))] ++ OW g ax ad x) [] [] := ⟨bkc_nil, bk_nil⟩
        refine z_gS (rest := []) (ws' := ([(q_bl, .inl (g 3, 64, .inl a_bl))] ++ OW g ax ad x)) X (KF_ok ev) (kc_of (KF_ok ev) (fun _ _ _ q => q) hK hA f45.1) hA k_L_cell (c_L_cell l hfl ev D g ((12 : Int32) + x4) o43 e44) ql_L_L_cell dL_drawn_237 f45.1 f45.2 rfl rfl ⟨Nat.le_of_ble_eq_true rfl, Nat.le_of_ble_eq_true rfl, rfl, rfl, (Nat.le_trans (m := 363) (by first | exact Nat.le_of_ble_eq_true rfl | omega) (Nat.le_of_ble_eq_true rfl)), (Nat.le_trans (m := 3373) (by first | exact Nat.le_of_ble_eq_true rfl | omega) (Nat.le_of_ble_eq_true rfl))⟩ (Nat.le_of_ble_eq_true rfl) ?_
        refine z_iconst X (1 : Int32) dL_drawn_240 (by decide) ?_
        refine z_iushr X dL_drawn_241 ?_
        refine z_istore X [(5, .int (ushr o43 (1 : Int32))), (0, .ref ev.b), (2, .ref (ax 0)), (4, .int x4)] dL_drawn_242 (by decide) rfl ?_
        refine z_aload_n X 2 dL_drawn_244 rfl rfl ?_
        refine z_iload X 3 dL_drawn_245 rfl ?_
        refine z_iload X 0 dL_drawn_247 rfl ?_
        refine z_iconst X (4 : Int32) dL_drawn_249 (by decide) ?_
        refine z_irem X dL_drawn_250 (by decide) ?_
        refine z_iconst X (4 : Int32) dL_drawn_251 (by decide) ?_
        refine z_iload X 0 dL_drawn_252 rfl ?_
        refine z_iconst X (2 : Int32) dL_drawn_254 (by decide) ?_
        refine z_iushr X dL_drawn_255 ?_
        refine z_iconst X (4 : Int32) dL_drawn_256 (by decide) ?_
        refine z_irem X dL_drawn_257 (by decide) ?_
        refine z_iadd X dL_drawn_258 ?_
        obtain ⟨o46, e47, h⟩ := bnd_p h
        have f48 := bk_appP (X := OW g ax ad x) (X' := OW g ax ad o46.2) (perm_of (n := 1) (E := [(q_bl, .inl (g 3, 64, .inl a_bl))]) (wc := []) (wr := [(q_bl, .inl (g 3, 64, .inl a_bl))]) [] [0] rfl rfl rfl (by decide +kernel)) (perm_of (n := 1) (E := [(q_bl, .inl (g 3, 64, .inl a_bl))]) (wc := []) (wr := [(q_bl, .inl (g 3, 64, .inl a_bl))]) [] [0] rfl rfl rfl (by decide +kernel)) rfl OW_fst
        refine z_gSH (rest := []) (ws' := ([(q_bl, .inl (g 3, 64, .inl a_bl))] ++ OW g ax ad o46.2)) X (KF_ok ev) (kc_of (KF_ok ev) (fun _ _ _ q => q) hK hA f48.1) hA k_L_hall (c_L_hall l hfl ev D g ad ax x4 ((ushr o43 (1 : Int32)) - (ushr o43 (1 : Int32)) / (4 : Int32) * (4 : Int32)) ((4 : Int32) + ((ushr (ushr o43 (1 : Int32)) (2 : Int32)) - (ushr (ushr o43 (1 : Int32)) (2 : Int32)) / (4 : Int32) * (4 : Int32))) x o46 e47) ql_L_L_hall dL_drawn_259 f48.1 f48.2 rfl rfl ⟨Nat.le_of_ble_eq_true rfl, Nat.le_of_ble_eq_true rfl, rfl, rfl, (Nat.le_trans (m := 363) (by first | exact Nat.le_of_ble_eq_true rfl | omega) (Nat.le_of_ble_eq_true rfl)), (Nat.le_trans (m := 3373) (by first | exact Nat.le_of_ble_eq_true rfl | omega) (Nat.le_of_ble_eq_true rfl))⟩ (Nat.le_of_ble_eq_true rfl) ?_
        refine z_iload X 3 dL_drawn_262 rfl ?_
        refine z_icmp_eq X 269 dL_drawn_264 (by decide) h (fun _ h => ?_) (fun _ h => ?_)
        · refine z_iinc X 3 [(4, .int (x4 + 1)), (5, .int (ushr o43 (1 : Int32))), (0, .ref ev.b), (2, .ref (ax 0))] dL_drawn_269 rfl rfl (by decide) rfl ?_
          refine z_goto X 225 dL_drawn_272 (by decide) ?_
          refine z_sub (lv' := [(0, .ref ev.b), (2, .ref (ax 0)), (4, .int (x4 + 1))]) [2, 3, 0] rfl ?_
          exact ih225 (x4 + 1) o46.2 a_bl _ _ (by omega) (by omega) h
        · cases h
  have H214 : ∀ (x : XVal) (a_bl : Nat → Int32), J_L_drawn_214 ev.L ev.xs x a_bl = some o → Z p l e { frames := 11, cells := 363, slots := 3373, locals := 197 } s m args below meth c Q 8 282 2887 (IW D A s ([(q_bl, .inl (g 3, 64, .inl a_bl))] ++ OW g ax ad x)) 214 [] [] := by
    intro x a_bl h
    cases h
  have H108 : ∀ (n : Nat) (x4 : Int32) (x : XVal) (a_bl : Nat → Int32) (c108 s108 : Nat), c108 + 5 * n ≤ 282 → s108 + 30 * n ≤ 2887 → L_L_drawn_108 ev.L ev.xs n x4 x a_bl = some o → Z p l e { frames := 11, cells := 363, slots := 3373, locals := 197 } s m args below meth c Q 8 c108 s108 (IW D A s ([(q_bl, .inl (g 3, 64, .inl a_bl))] ++ OW g ax ad x)) 108 [(0, .ref ev.b), (2, .ref (ax 0)), (4, .int x4)] [] := by
    intro n
    induction n with
    | zero => intro x4 x a_bl c108 s108 _ _ h; cases h
    | succ n108 ih108 =>
      intro x4 x a_bl c108 s108 hc108 hs108 h
      have H162 : ∀ (t0 : Int32) (x4 : Int32) (x5 : Int32) (x : XVal) (a_bl : Nat → Int32), J_L_drawn_162 ev.L ev.xs (L_L_drawn_108 ev.L ev.xs n108) t0 x4 x5 x a_bl = some o → Z p l e { frames := 11, cells := 363, slots := 3373, locals := 197 } s m args below meth c Q 8 (c108 + 0) (s108 + 0) (IW D A s ([(q_bl, .inl (g 3, 64, .inl a_bl))] ++ OW g ax ad x)) 162 [(0, .ref ev.b), (2, .ref (ax 0)), (4, .int x4), (5, .int x5)] [.int t0, .ref (ax 0)] := by
        intro t0 x4 x5 x a_bl h
        refine z_iload X 3 dL_drawn_162 rfl ?_
        refine z_bipush X (8 : Int32) dL_drawn_164 (by decide) ?_
        refine z_iushr X dL_drawn_166 ?_
        refine z_bipush X (24 : Int32) dL_drawn_167 (by decide) ?_
        refine z_irem X dL_drawn_169 (by decide) ?_
        refine z_iload X 3 dL_drawn_170 rfl ?_
        refine z_bipush X (13 : Int32) dL_drawn_172 (by decide) ?_
        refine z_iushr X dL_drawn_174 ?_
        refine z_bipush X (24 : Int32) dL_drawn_175 (by decide) ?_
        refine z_irem X dL_drawn_177 (by decide) ?_
        obtain ⟨o52, e53, h⟩ := bnd_p h
        have f54 := bk_appP (X := OW g ax ad x) (X' := OW g ax ad o52.2) (perm_of (n := 1) (E := [(q_bl, .inl (g 3, 64, .inl a_bl))]) (wc := []) (wr := [(q_bl, .inl (g 3, 64, .inl a_bl))]) [] [0] rfl rfl rfl (by decide +kernel)) (perm_of (n := 1) (E := [(q_bl, .inl (g 3, 64, .inl a_bl))]) (wc := []) (wr := [(q_bl, .inl (g 3, 64, .inl a_bl))]) [] [0] rfl rfl rfl (by decide +kernel)) rfl OW_fst
        refine z_gSH (rest := []) (ws' := ([(q_bl, .inl (g 3, 64, .inl a_bl))] ++ OW g ax ad o52.2)) X (KF_ok ev) (kc_of (KF_ok ev) (fun _ _ _ q => q) hK hA f54.1) hA k_L_house (c_L_house l hfl ev D g ad ax t0 ((ushr x5 (8 : Int32)) - (ushr x5 (8 : Int32)) / (24 : Int32) * (24 : Int32)) ((ushr x5 (13 : Int32)) - (ushr x5 (13 : Int32)) / (24 : Int32) * (24 : Int32)) x o52 e53) ql_L_L_house dL_drawn_178 f54.1 f54.2 rfl rfl ⟨Nat.le_of_ble_eq_true rfl, Nat.le_of_ble_eq_true rfl, rfl, rfl, (Nat.le_trans (m := 363) (by first | exact Nat.le_of_ble_eq_true rfl | omega) (Nat.le_of_ble_eq_true rfl)), (Nat.le_trans (m := 3373) (by first | exact Nat.le_of_ble_eq_true rfl | omega) (Nat.le_of_ble_eq_true rfl))⟩ (Nat.le_of_ble_eq_true rfl) ?_
        refine z_istore X [(7, .int o52.1), (0, .ref ev.b), (2, .ref (ax 0)), (4, .int x4), (5, .int x5)] dL_drawn_181 (by decide) rfl ?_
        refine z_iload X 0 dL_drawn_183 rfl ?_
        refine z_iconst X ((-1) : Int32) dL_drawn_185 (by decide) ?_
        refine z_icmp_eq X 214 dL_drawn_186 (by decide) h (fun _ h => ?_) (fun _ h => ?_)
        · refine z_widen (k := 282) (n := 2887) (by omega) (by omega) ?_
          refine z_widen (k := 282) (n := 2887) (by first | exact Nat.le_of_ble_eq_true rfl | omega) (by first | exact Nat.le_of_ble_eq_true rfl | omega) ?_
          refine z_sub (lv' := []) [] rfl ?_
          exact H214 o52.2 a_bl h
        · refine z_iload X 0 dL_drawn_189 rfl ?_
          refine z_bipush X ((-2) : Int32) dL_drawn_191 (by decide) ?_
          refine z_icmp_ne X 216 dL_drawn_193 (by decide) h (fun _ h => ?_) (fun _ h => ?_)
          · refine z_aload_n X 2 dL_drawn_196 rfl rfl ?_
            refine z_iconst X (0 : Int32) dL_drawn_197 (by decide) ?_
            obtain ⟨o55, e56, h⟩ := bnd_p h
            have f57 := bk_appP (X := OW g ax ad o52.2) (X' := OW g ax ad o52.2) (perm_of (n := 1) (E := [(q_bl, .inl (g 3, 64, .inl a_bl))]) (wc := []) (wr := [(q_bl, .inl (g 3, 64, .inl a_bl))]) [] [0] rfl rfl rfl (by decide +kernel)) (perm_of (n := 1) (E := [(q_bl, .inl (g 3, 64, .inl a_bl))]) (wc := []) (wr := [(q_bl, .inl (g 3, 64, .inl a_bl))]) [] [0] rfl rfl rfl (by decide +kernel)) rfl OW_fst
            refine z_gSH (rest := []) (ws' := ([(q_bl, .inl (g 3, 64, .inl a_bl))] ++ OW g ax ad o52.2)) X (KF_ok ev) (kc_of (KF_ok ev) (fun _ _ _ q => q) hK hA f57.1) hA k_L_refusal (c_L_refusal l hfl ev D g ad ax (0 : Int32) o52.2 o55 e56) ql_L_L_refusal dL_drawn_198 f57.1 f57.2 rfl rfl ⟨Nat.le_of_ble_eq_true rfl, Nat.le_of_ble_eq_true rfl, rfl, rfl, (Nat.le_trans (m := 363) (by first | exact Nat.le_of_ble_eq_true rfl | omega) (Nat.le_of_ble_eq_true rfl)), (Nat.le_trans (m := 3373) (by first | exact Nat.le_of_ble_eq_true rfl | omega) (Nat.le_of_ble_eq_true rfl))⟩ (Nat.le_of_ble_eq_true rfl) ?_
            refine z_iconst X (2 : Int32) dL_drawn_201 (by decide) ?_
            refine z_icmp_eq X 216 dL_drawn_202 (by decide) h (fun _ h => ?_) (fun _ h => ?_)
            · refine z_iinc X 3 [(4, .int (x4 + 1)), (7, .int o52.1), (0, .ref ev.b), (2, .ref (ax 0)), (5, .int x5)] dL_drawn_216 rfl rfl (by decide) rfl ?_
              refine z_goto X 108 dL_drawn_219 (by decide) ?_
              refine z_sub (lv' := [(0, .ref ev.b), (2, .ref (ax 0)), (4, .int (x4 + 1))]) [2, 3, 0] rfl ?_
              exact ih108 (x4 + 1) o52.2 a_bl _ _ (by omega) (by omega) h
            · refine z_aload_n X 2 dL_drawn_205 rfl rfl ?_
              refine z_iconst X (0 : Int32) dL_drawn_206 (by decide) ?_
              obtain ⟨o58, e59, h⟩ := bnd_p h
              have f60 := bk_appP (X := OW g ax ad o52.2) (X' := OW g ax ad o52.2) (perm_of (n := 1) (E := [(q_bl, .inl (g 3, 64, .inl a_bl))]) (wc := []) (wr := [(q_bl, .inl (g 3, 64, .inl a_bl))]) [] [0] rfl rfl rfl (by decide +kernel)) (perm_of (n := 1) (E := [(q_bl, .inl (g 3, 64, .inl a_bl))]) (wc := []) (wr := [(q_bl, .inl (g 3, 64, .inl a_bl))]) [] [0] rfl rfl rfl (by decide +kernel)) rfl OW_fst
              refine z_gSH (rest := []) (ws' := ([(q_bl, .inl (g 3, 64, .inl a_bl))] ++ OW g ax ad o52.2)) X (KF_ok ev) (kc_of (KF_ok ev) (fun _ _ _ q => q) hK hA f60.1) hA k_L_refusal (c_L_refusal l hfl ev D g ad ax (0 : Int32) o52.2 o58 e59) ql_L_L_refusal dL_drawn_207 f60.1 f60.2 rfl rfl ⟨Nat.le_of_ble_eq_true rfl, Nat.le_of_ble_eq_true rfl, rfl, rfl, (Nat.le_trans (m := 363) (by first | exact Nat.le_of_ble_eq_true rfl | omega) (Nat.le_of_ble_eq_true rfl)), (Nat.le_trans (m := 3373) (by first | exact Nat.le_of_ble_eq_true rfl | omega) (Nat.le_of_ble_eq_true rfl))⟩ (Nat.le_of_ble_eq_true rfl) ?_
              refine z_iconst X (3 : Int32) dL_drawn_210 (by decide) ?_
              refine z_icmp_eq X 216 dL_drawn_211 (by decide) h (fun _ h => ?_) (fun _ h => ?_)
              · refine z_iinc X 3 [(4, .int (x4 + 1)), (7, .int o52.1), (0, .ref ev.b), (2, .ref (ax 0)), (5, .int x5)] dL_drawn_216 rfl rfl (by decide) rfl ?_
                refine z_goto X 108 dL_drawn_219 (by decide) ?_
                refine z_sub (lv' := [(0, .ref ev.b), (2, .ref (ax 0)), (4, .int (x4 + 1))]) [2, 3, 0] rfl ?_
                exact ih108 (x4 + 1) o52.2 a_bl _ _ (by omega) (by omega) h
              · refine z_widen (k := 282) (n := 2887) (by omega) (by omega) ?_
                refine z_widen (k := 282) (n := 2887) (by first | exact Nat.le_of_ble_eq_true rfl | omega) (by first | exact Nat.le_of_ble_eq_true rfl | omega) ?_
                refine z_sub (lv' := []) [] rfl ?_
                exact H214 o52.2 a_bl h
          · refine z_iinc X 3 [(4, .int (x4 + 1)), (7, .int o52.1), (0, .ref ev.b), (2, .ref (ax 0)), (5, .int x5)] dL_drawn_216 rfl rfl (by decide) rfl ?_
            refine z_goto X 108 dL_drawn_219 (by decide) ?_
            refine z_sub (lv' := [(0, .ref ev.b), (2, .ref (ax 0)), (4, .int (x4 + 1))]) [2, 3, 0] rfl ?_
            exact ih108 (x4 + 1) o52.2 a_bl _ _ (by omega) (by omega) h
      refine z_iload X 2 dL_drawn_108 rfl ?_
      refine z_bipush X (7 : Int32) dL_drawn_110 (by decide) ?_
      refine z_icmp_ge X 222 dL_drawn_112 (by decide) h (fun _ h => ?_) (fun _ h => ?_)
      · refine z_widen (k := 282) (n := 2887) (by omega) (by omega) ?_
        refine z_iconst X (0 : Int32) dL_drawn_222 (by decide) ?_
        refine z_istore X [(4, .int (0 : Int32)), (0, .ref ev.b), (2, .ref (ax 0))] dL_drawn_223 (by decide) rfl ?_
        refine z_sub (lv' := [(0, .ref ev.b), (2, .ref (ax 0)), (4, .int (0 : Int32))]) [1, 2, 0] rfl ?_
        exact H225 4 (0 : Int32) x a_bl _ _ (by first | exact Nat.le_of_ble_eq_true rfl | omega) (by first | exact Nat.le_of_ble_eq_true rfl | omega) h
      · refine z_aload_n X 0 dL_drawn_115 rfl rfl ?_
        refine z_iconst X (5 : Int32) dL_drawn_116 (by decide) ?_
        refine z_iload X 2 dL_drawn_117 rfl ?_
        refine z_iadd X dL_drawn_119 ?_
        obtain ⟨o49, e50, h⟩ := bnd_p h
        have f51 : bkc ([(q_bl, .inl (g 3, 64, .inl a_bl))] ++ OW g ax ad x) [] ∧ bk ([(q_bl, .inl (g 3, 64, .inl a_bl))] ++ OW g ax ad x) ([(q_bl, .inl (g 3, 64, .inl a_bl))] ++ OW g ax ad x) [] [] := ⟨bkc_nil, bk_nil⟩
        refine z_gS (rest := []) (ws' := ([(q_bl, .inl (g 3, 64, .inl a_bl))] ++ OW g ax ad x)) X (KF_ok ev) (kc_of (KF_ok ev) (fun _ _ _ q => q) hK hA f51.1) hA k_L_cell (c_L_cell l hfl ev D g ((5 : Int32) + x4) o49 e50) ql_L_L_cell dL_drawn_120 f51.1 f51.2 rfl rfl ⟨Nat.le_of_ble_eq_true rfl, Nat.le_of_ble_eq_true rfl, rfl, rfl, (Nat.le_trans (m := 363) (by first | exact Nat.le_of_ble_eq_true rfl | omega) (Nat.le_of_ble_eq_true rfl)), (Nat.le_trans (m := 3373) (by first | exact Nat.le_of_ble_eq_true rfl | omega) (Nat.le_of_ble_eq_true rfl))⟩ (Nat.le_of_ble_eq_true rfl) ?_
        refine z_iconst X (1 : Int32) dL_drawn_123 (by decide) ?_
        refine z_iushr X dL_drawn_124 ?_
        refine z_istore X [(5, .int (ushr o49 (1 : Int32))), (0, .ref ev.b), (2, .ref (ax 0)), (4, .int x4)] dL_drawn_125 (by decide) rfl ?_
        refine z_iload X 0 dL_drawn_127 rfl ?_
        refine z_bipush X (6 : Int32) dL_drawn_129 (by decide) ?_
        refine z_iushr X dL_drawn_131 ?_
        refine z_iconst X (3 : Int32) dL_drawn_132 (by decide) ?_
        refine z_irem X dL_drawn_133 (by decide) ?_
        refine z_istore X [(6, .int ((ushr (ushr o49 (1 : Int32)) (6 : Int32)) - (ushr (ushr o49 (1 : Int32)) (6 : Int32)) / (3 : Int32) * (3 : Int32))), (5, .int (ushr o49 (1 : Int32))), (0, .ref ev.b), (2, .ref (ax 0)), (4, .int x4)] dL_drawn_134 (by decide) rfl ?_
        refine z_aload_n X 3 dL_drawn_136 rfl rfl ?_
        refine z_iload X 4 dL_drawn_137 rfl ?_
        refine z_iconst X (4 : Int32) dL_drawn_139 (by decide) ?_
        refine z_icmp_ge X 157 dL_drawn_140 (by decide) h (fun _ h => ?_) (fun _ h => ?_)
        · refine z_iload X 1 dL_drawn_157 rfl ?_
          refine z_bipush X (64 : Int32) dL_drawn_159 (by decide) ?_
          refine z_irem X dL_drawn_161 (by decide) ?_
          refine z_widen (k := (c108 + 0)) (n := (s108 + 0)) (by first | exact Nat.le_of_ble_eq_true rfl | omega) (by first | exact Nat.le_of_ble_eq_true rfl | omega) ?_
          refine z_sub (lv' := [(0, .ref ev.b), (2, .ref (ax 0)), (4, .int x4), (5, .int (ushr o49 (1 : Int32)))]) [2, 3, 4, 1] rfl ?_
          exact H162 ((ushr o49 (1 : Int32)) - (ushr o49 (1 : Int32)) / (64 : Int32) * (64 : Int32)) x4 (ushr o49 (1 : Int32)) x a_bl h
        · refine z_bipush X (8 : Int32) dL_drawn_143 (by decide) ?_
          refine z_iload X 0 dL_drawn_145 rfl ?_
          refine z_imul X dL_drawn_147 ?_
          refine z_iload X 1 dL_drawn_148 rfl ?_
          refine z_bipush X (8 : Int32) dL_drawn_150 (by decide) ?_
          refine z_irem X dL_drawn_152 (by decide) ?_
          refine z_iadd X dL_drawn_153 ?_
          refine z_goto X 162 dL_drawn_154 (by decide) ?_
          refine z_widen (k := (c108 + 0)) (n := (s108 + 0)) (by first | exact Nat.le_of_ble_eq_true rfl | omega) (by first | exact Nat.le_of_ble_eq_true rfl | omega) ?_
          refine z_sub (lv' := [(0, .ref ev.b), (2, .ref (ax 0)), (4, .int x4), (5, .int (ushr o49 (1 : Int32)))]) [2, 3, 4, 1] rfl ?_
          exact H162 (((8 : Int32) * ((ushr (ushr o49 (1 : Int32)) (6 : Int32)) - (ushr (ushr o49 (1 : Int32)) (6 : Int32)) / (3 : Int32) * (3 : Int32))) + ((ushr o49 (1 : Int32)) - (ushr o49 (1 : Int32)) / (8 : Int32) * (8 : Int32))) x4 (ushr o49 (1 : Int32)) x a_bl h
  have H19 : ∀ (n : Nat) (x3 : Int32) (x4 : Int32) (x : XVal) (a_bl : Nat → Int32) (c19 s19 : Nat), c19 + 3 * n ≤ 242 → s19 + 18 * n ≤ 2647 → L_L_drawn_19 ev.L ev.xs n x3 x4 x a_bl = some o → Z p l e { frames := 11, cells := 363, slots := 3373, locals := 197 } s m args below meth c Q 8 c19 s19 (IW D A s ([(q_bl, .inl (g 3, 64, .inl a_bl))] ++ OW g ax ad x)) 19 [(0, .ref ev.b), (1, .ref q_bl), (2, .ref (ax 0)), (3, .int x3), (4, .int x4)] [] := by
    intro n
    induction n with
    | zero => intro x3 x4 x a_bl c19 s19 _ _ h; cases h
    | succ n19 ih19 =>
      intro x3 x4 x a_bl c19 s19 hc19 hs19 h
      have H94 : ∀ (t0 : Int32) (t1 : Int32) (x3 : Int32) (x4 : Int32) (x : XVal) (a_bl : Nat → Int32), J_L_drawn_94 ev.L ev.xs (L_L_drawn_19 ev.L ev.xs n19) t0 t1 x3 x4 x a_bl = some o → Z p l e { frames := 11, cells := 363, slots := 3373, locals := 197 } s m args below meth c Q 8 (c19 + 3) (s19 + 18) (IW D A s ([(q_bl, .inl (g 3, 64, .inl a_bl))] ++ OW g ax ad x)) 94 [(0, .ref ev.b), (1, .ref q_bl), (2, .ref (ax 0)), (3, .int x3), (4, .int x4)] [.int t0, .int t1] := by
        intro t0 t1 x3 x4 x a_bl h
        refine z_icmp_eq X 99 dL_drawn_94 (by decide) h (fun _ h => ?_) (fun _ h => ?_)
        · refine z_iinc X 4 [(4, .int (x4 + 1)), (0, .ref ev.b), (1, .ref q_bl), (2, .ref (ax 0)), (3, .int x3)] dL_drawn_99 rfl rfl (by decide) rfl ?_
          refine z_goto X 19 dL_drawn_102 (by decide) ?_
          refine z_sub (lv' := [(0, .ref ev.b), (1, .ref q_bl), (2, .ref (ax 0)), (3, .int x3), (4, .int (x4 + 1))]) [1, 2, 3, 4, 0] rfl ?_
          exact ih19 x3 (x4 + 1) x a_bl _ _ (by omega) (by omega) h
        · cases h
      have H75 : ∀ (t0 : Int32) (t1 : Int32) (x3 : Int32) (x4 : Int32) (x5 : Int32) (x : XVal) (a_bl : Nat → Int32), J_L_drawn_75 ev.L ev.xs (L_L_drawn_19 ev.L ev.xs n19) t0 t1 x3 x4 x5 x a_bl = some o → Z p l e { frames := 11, cells := 363, slots := 3373, locals := 197 } s m args below meth c Q 8 (c19 + 0) (s19 + 0) (IW D A s ([(q_bl, .inl (g 3, 64, .inl a_bl))] ++ OW g ax ad x)) 75 [(0, .ref ev.b), (1, .ref q_bl), (2, .ref (ax 0)), (3, .int x3), (4, .int x4), (5, .int x5)] [.int t0, .int t1, .ref q_bl] := by
        intro t0 t1 x3 x4 x5 x a_bl h
        refine z_zast (q0 := 0) (ws' := ([(q_bl, .inl (g 3, 64, .inl (upd a_bl t1.toNatClampNeg (vp_nar .boolean t0))))] ++ OW g ax ad x)) X dL_drawn_75 rfl h rfl (fun h => ?_)
        refine z_aload_n X 2 dL_drawn_76 rfl rfl ?_
        refine z_iload X 5 dL_drawn_77 rfl ?_
        obtain ⟨o64, e65, h⟩ := bnd_p h
        have f66 := bk_appP (X := OW g ax ad x) (X' := OW g ax ad o64.2) (perm_of (n := 1) (E := [(q_bl, .inl (g 3, 64, .inl (upd a_bl t1.toNatClampNeg (vp_nar .boolean t0))))]) (wc := []) (wr := [(q_bl, .inl (g 3, 64, .inl (upd a_bl t1.toNatClampNeg (vp_nar .boolean t0))))]) [] [0] rfl rfl rfl (by decide +kernel)) (perm_of (n := 1) (E := [(q_bl, .inl (g 3, 64, .inl (upd a_bl t1.toNatClampNeg (vp_nar .boolean t0))))]) (wc := []) (wr := [(q_bl, .inl (g 3, 64, .inl (upd a_bl t1.toNatClampNeg (vp_nar .boolean t0))))]) [] [0] rfl rfl rfl (by decide +kernel)) rfl OW_fst
        refine z_gSH (rest := []) (ws' := ([(q_bl, .inl (g 3, 64, .inl (upd a_bl t1.toNatClampNeg (vp_nar .boolean t0))))] ++ OW g ax ad o64.2)) X (KF_ok ev) (kc_of (KF_ok ev) (fun _ _ _ q => q) hK hA f66.1) hA k_L_block (c_L_block l hfl ev D g ad ax x5 x o64 e65) ql_L_L_block dL_drawn_79 f66.1 f66.2 rfl rfl ⟨Nat.le_of_ble_eq_true rfl, Nat.le_of_ble_eq_true rfl, rfl, rfl, (Nat.le_trans (m := 363) (by first | exact Nat.le_of_ble_eq_true rfl | omega) (Nat.le_of_ble_eq_true rfl)), (Nat.le_trans (m := 3373) (by first | exact Nat.le_of_ble_eq_true rfl | omega) (Nat.le_of_ble_eq_true rfl))⟩ (Nat.le_of_ble_eq_true rfl) ?_
        refine z_aload_n X 1 dL_drawn_82 rfl rfl ?_
        refine z_iload X 5 dL_drawn_83 rfl ?_
        refine z_zald (q0 := 0) X IW_P dL_drawn_85 rfl h (fun h => ?_)
        refine z_if_eq X 93 dL_drawn_86 (by decide) h (fun _ h => ?_) (fun _ h => ?_)
        · refine z_iconst X (0 : Int32) dL_drawn_93 (by decide) ?_
          refine z_widen (k := (c19 + 3)) (n := (s19 + 18)) (by first | exact Nat.le_of_ble_eq_true rfl | omega) (by first | exact Nat.le_of_ble_eq_true rfl | omega) ?_
          refine z_sub (lv' := [(0, .ref ev.b), (1, .ref q_bl), (2, .ref (ax 0)), (3, .int x3), (4, .int x4)]) [0, 1, 2, 3, 4] rfl ?_
          exact H94 (0 : Int32) o64.1 x3 x4 o64.2 (upd a_bl t1.toNatClampNeg (vp_nar .boolean t0)) h
        · refine z_iconst X (1 : Int32) dL_drawn_89 (by decide) ?_
          refine z_goto X 94 dL_drawn_90 (by decide) ?_
          refine z_widen (k := (c19 + 3)) (n := (s19 + 18)) (by first | exact Nat.le_of_ble_eq_true rfl | omega) (by first | exact Nat.le_of_ble_eq_true rfl | omega) ?_
          refine z_sub (lv' := [(0, .ref ev.b), (1, .ref q_bl), (2, .ref (ax 0)), (3, .int x3), (4, .int x4)]) [0, 1, 2, 3, 4] rfl ?_
          exact H94 (1 : Int32) o64.1 x3 x4 o64.2 (upd a_bl t1.toNatClampNeg (vp_nar .boolean t0)) h
      refine z_iload X 4 dL_drawn_19 rfl ?_
      refine z_bipush X (16 : Int32) dL_drawn_21 (by decide) ?_
      refine z_icmp_ge X 105 dL_drawn_23 (by decide) h (fun _ h => ?_) (fun _ h => ?_)
      · refine z_widen (k := 242) (n := 2647) (by omega) (by omega) ?_
        refine z_iconst X (0 : Int32) dL_drawn_105 (by decide) ?_
        refine z_istore X [(4, .int (0 : Int32)), (0, .ref ev.b), (1, .ref q_bl), (2, .ref (ax 0)), (3, .int x3)] dL_drawn_106 (by decide) rfl ?_
        refine z_sub (lv' := [(0, .ref ev.b), (2, .ref (ax 0)), (4, .int (0 : Int32))]) [1, 3, 0] rfl ?_
        exact H108 8 (0 : Int32) x a_bl _ _ (by first | exact Nat.le_of_ble_eq_true rfl | omega) (by first | exact Nat.le_of_ble_eq_true rfl | omega) h
      · refine z_aload_n X 0 dL_drawn_26 rfl rfl ?_
        refine z_iconst X (1 : Int32) dL_drawn_27 (by decide) ?_
        refine z_iload X 4 dL_drawn_28 rfl ?_
        refine z_iconst X (4 : Int32) dL_drawn_30 (by decide) ?_
        refine z_idiv X dL_drawn_31 (by decide) ?_
        refine z_iadd X dL_drawn_32 ?_
        obtain ⟨o61, e62, h⟩ := bnd_p h
        have f63 : bkc ([(q_bl, .inl (g 3, 64, .inl a_bl))] ++ OW g ax ad x) [] ∧ bk ([(q_bl, .inl (g 3, 64, .inl a_bl))] ++ OW g ax ad x) ([(q_bl, .inl (g 3, 64, .inl a_bl))] ++ OW g ax ad x) [] [] := ⟨bkc_nil, bk_nil⟩
        refine z_gS (rest := []) (ws' := ([(q_bl, .inl (g 3, 64, .inl a_bl))] ++ OW g ax ad x)) X (KF_ok ev) (kc_of (KF_ok ev) (fun _ _ _ q => q) hK hA f63.1) hA k_L_cell (c_L_cell l hfl ev D g ((1 : Int32) + (x4 / (4 : Int32))) o61 e62) ql_L_L_cell dL_drawn_33 f63.1 f63.2 rfl rfl ⟨Nat.le_of_ble_eq_true rfl, Nat.le_of_ble_eq_true rfl, rfl, rfl, (Nat.le_trans (m := 363) (by first | exact Nat.le_of_ble_eq_true rfl | omega) (Nat.le_of_ble_eq_true rfl)), (Nat.le_trans (m := 3373) (by first | exact Nat.le_of_ble_eq_true rfl | omega) (Nat.le_of_ble_eq_true rfl))⟩ (Nat.le_of_ble_eq_true rfl) ?_
        refine z_iconst X (1 : Int32) dL_drawn_36 (by decide) ?_
        refine z_bipush X (6 : Int32) dL_drawn_37 (by decide) ?_
        refine z_iload X 4 dL_drawn_39 rfl ?_
        refine z_iconst X (4 : Int32) dL_drawn_41 (by decide) ?_
        refine z_irem X dL_drawn_42 (by decide) ?_
        refine z_imul X dL_drawn_43 ?_
        refine z_iadd X dL_drawn_44 ?_
        refine z_iushr X dL_drawn_45 ?_
        refine z_bipush X (64 : Int32) dL_drawn_46 (by decide) ?_
        refine z_irem X dL_drawn_48 (by decide) ?_
        refine z_istore X [(5, .int ((ushr o61 ((1 : Int32) + ((6 : Int32) * (x4 - x4 / (4 : Int32) * (4 : Int32))))) - (ushr o61 ((1 : Int32) + ((6 : Int32) * (x4 - x4 / (4 : Int32) * (4 : Int32))))) / (64 : Int32) * (64 : Int32))), (0, .ref ev.b), (1, .ref q_bl), (2, .ref (ax 0)), (3, .int x3), (4, .int x4)] dL_drawn_49 (by decide) rfl ?_
        refine z_iload X 5 dL_drawn_51 rfl ?_
        refine z_iload_n X 4 dL_drawn_53 rfl rfl ?_
        refine z_bipush X (17 : Int32) dL_drawn_54 (by decide) ?_
        refine z_irem X dL_drawn_56 (by decide) ?_
        refine z_icmp_ge X 99 dL_drawn_57 (by decide) h (fun _ h => ?_) (fun _ h => ?_)
        · refine z_iinc X 5 [(4, .int (x4 + 1)), (5, .int ((ushr o61 ((1 : Int32) + ((6 : Int32) * (x4 - x4 / (4 : Int32) * (4 : Int32))))) - (ushr o61 ((1 : Int32) + ((6 : Int32) * (x4 - x4 / (4 : Int32) * (4 : Int32))))) / (64 : Int32) * (64 : Int32))), (0, .ref ev.b), (1, .ref q_bl), (2, .ref (ax 0)), (3, .int x3)] dL_drawn_99 rfl rfl (by decide) rfl ?_
          refine z_goto X 19 dL_drawn_102 (by decide) ?_
          refine z_sub (lv' := [(0, .ref ev.b), (1, .ref q_bl), (2, .ref (ax 0)), (3, .int x3), (4, .int (x4 + 1))]) [2, 3, 4, 5, 0] rfl ?_
          exact ih19 x3 (x4 + 1) x a_bl _ _ (by omega) (by omega) h
        · refine z_aload_n X 2 dL_drawn_60 rfl rfl ?_
          refine z_iload X 0 dL_drawn_61 rfl ?_
          refine z_aload_n X 2 dL_drawn_63 rfl rfl ?_
          refine z_iload X 0 dL_drawn_64 rfl ?_
          refine z_zald (q0 := 0) X IW_P dL_drawn_66 rfl h (fun h => ?_)
          refine z_if_ne X 74 dL_drawn_67 (by decide) h (fun _ h => ?_) (fun _ h => ?_)
          · refine z_iconst X (1 : Int32) dL_drawn_70 (by decide) ?_
            refine z_goto X 75 dL_drawn_71 (by decide) ?_
            refine z_widen (k := (c19 + 0)) (n := (s19 + 0)) (by first | exact Nat.le_of_ble_eq_true rfl | omega) (by first | exact Nat.le_of_ble_eq_true rfl | omega) ?_
            refine z_sub (lv' := [(0, .ref ev.b), (1, .ref q_bl), (2, .ref (ax 0)), (3, .int x3), (4, .int x4), (5, .int ((ushr o61 ((1 : Int32) + ((6 : Int32) * (x4 - x4 / (4 : Int32) * (4 : Int32))))) - (ushr o61 ((1 : Int32) + ((6 : Int32) * (x4 - x4 / (4 : Int32) * (4 : Int32))))) / (64 : Int32) * (64 : Int32)))]) [1, 2, 3, 4, 5, 0] rfl ?_
            exact H75 (1 : Int32) ((ushr o61 ((1 : Int32) + ((6 : Int32) * (x4 - x4 / (4 : Int32) * (4 : Int32))))) - (ushr o61 ((1 : Int32) + ((6 : Int32) * (x4 - x4 / (4 : Int32) * (4 : Int32))))) / (64 : Int32) * (64 : Int32)) x3 x4 ((ushr o61 ((1 : Int32) + ((6 : Int32) * (x4 - x4 / (4 : Int32) * (4 : Int32))))) - (ushr o61 ((1 : Int32) + ((6 : Int32) * (x4 - x4 / (4 : Int32) * (4 : Int32))))) / (64 : Int32) * (64 : Int32)) x a_bl h
          · refine z_iconst X (0 : Int32) dL_drawn_74 (by decide) ?_
            refine z_widen (k := (c19 + 0)) (n := (s19 + 0)) (by first | exact Nat.le_of_ble_eq_true rfl | omega) (by first | exact Nat.le_of_ble_eq_true rfl | omega) ?_
            refine z_sub (lv' := [(0, .ref ev.b), (1, .ref q_bl), (2, .ref (ax 0)), (3, .int x3), (4, .int x4), (5, .int ((ushr o61 ((1 : Int32) + ((6 : Int32) * (x4 - x4 / (4 : Int32) * (4 : Int32))))) - (ushr o61 ((1 : Int32) + ((6 : Int32) * (x4 - x4 / (4 : Int32) * (4 : Int32))))) / (64 : Int32) * (64 : Int32)))]) [1, 2, 3, 4, 5, 0] rfl ?_
            exact H75 (0 : Int32) ((ushr o61 ((1 : Int32) + ((6 : Int32) * (x4 - x4 / (4 : Int32) * (4 : Int32))))) - (ushr o61 ((1 : Int32) + ((6 : Int32) * (x4 - x4 / (4 : Int32) * (4 : Int32))))) / (64 : Int32) * (64 : Int32)) x3 x4 ((ushr o61 ((1 : Int32) + ((6 : Int32) * (x4 - x4 / (4 : Int32) * (4 : Int32))))) - (ushr o61 ((1 : Int32) + ((6 : Int32) * (x4 - x4 / (4 : Int32) * (4 : Int32))))) / (64 : Int32) * (64 : Int32)) x a_bl h
  refine z_astore_n X [(2, .ref (ax 0)), (0, .ref ev.b), (1, .ref q_bl)] dL_drawn_7 rfl (by decide) rfl ?_
  refine z_aload_n X 1 dL_drawn_8 rfl rfl ?_
  refine z_iconst X (0 : Int32) dL_drawn_9 (by decide) ?_
  obtain ⟨o1, e2, h⟩ := bnd_p h
  have f3 : bkc ([(q_bl, .inl (g 3, 64, .inl a_bl))] ++ OW g ax ad x0) [] ∧ bk ([(q_bl, .inl (g 3, 64, .inl a_bl))] ++ OW g ax ad x0) ([(q_bl, .inl (g 3, 64, .inl a_bl))] ++ OW g ax ad x0) [] [] := ⟨bkc_nil, bk_nil⟩
  refine z_gS (rest := []) (ws' := ([(q_bl, .inl (g 3, 64, .inl a_bl))] ++ OW g ax ad x0)) X (KF_ok ev) (kc_of (KF_ok ev) (fun _ _ _ q => q) hK hA f3.1) hA k_L_cell (c_L_cell l hfl ev D g (0 : Int32) o1 e2) ql_L_L_cell dL_drawn_10 f3.1 f3.2 rfl rfl ⟨Nat.le_of_ble_eq_true rfl, Nat.le_of_ble_eq_true rfl, rfl, rfl, (Nat.le_trans (m := 363) (by first | exact Nat.le_of_ble_eq_true rfl | omega) (Nat.le_of_ble_eq_true rfl)), (Nat.le_trans (m := 3373) (by first | exact Nat.le_of_ble_eq_true rfl | omega) (Nat.le_of_ble_eq_true rfl))⟩ (Nat.le_of_ble_eq_true rfl) ?_
  refine z_iconst X (1 : Int32) dL_drawn_13 (by decide) ?_
  refine z_iushr X dL_drawn_14 ?_
  refine z_istore_n X [(3, .int (ushr o1 (1 : Int32))), (2, .ref (ax 0)), (0, .ref ev.b), (1, .ref q_bl)] dL_drawn_15 rfl (by decide) rfl ?_
  refine z_iconst X (0 : Int32) dL_drawn_16 (by decide) ?_
  refine z_istore X [(4, .int (0 : Int32)), (3, .int (ushr o1 (1 : Int32))), (2, .ref (ax 0)), (0, .ref ev.b), (1, .ref q_bl)] dL_drawn_17 (by decide) rfl ?_
  refine z_sub (lv' := [(0, .ref ev.b), (1, .ref q_bl), (2, .ref (ax 0)), (3, .int (ushr o1 (1 : Int32))), (4, .int (0 : Int32))]) [3, 4, 2, 1, 0] rfl ?_
  exact H19 17 (ushr o1 (1 : Int32)) (0 : Int32) x0 a_bl _ _ (by first | exact Nat.le_of_ble_eq_true rfl | omega) (by first | exact Nat.le_of_ble_eq_true rfl | omega) h
