def L_L_sum_161 : Nat → Int64 → Int32 → (XVal) → Option (Int64 × XVal)
  | 0, _, _, _ => none
  | _n + 1, x1, x3, x =>
    brn ((4 : Int32) ≤ x3) (some (x1, x)) (bnd (F_L_rings x3 x) (fun o7 => L_L_sum_161  _n (((47 : Int64) * x1) + o7.toInt64) (x3 + 1) x))

def L_L_sum_126 (r110 : Int64 → Int32 → (XVal) → Option (Int64 × XVal)) : Nat → Int64 → Int32 → Int32 → (XVal) → Option (Int64 × XVal)
  | 0, _, _, _, _ => none
  | _n + 1, x1, x3, x5, x =>
    brn ((8 : Int32) ≤ x5) (r110 x1 (x3 + 1) x) (bnd (F_L_character x5 x) (fun o13 => L_L_sum_126 r110 _n (((43 : Int64) * x1) + o13.toInt64) x3 (x5 + 1) x))

def L_L_sum_110 : Nat → Int64 → Int32 → (XVal) → Option (Int64 × XVal)
  | 0, _, _, _ => none
  | _n + 1, x1, x3, x =>
    brn ((8 : Int32) ≤ x3) (L_L_sum_161 5 x1 (0 : Int32) x) (bnd (F_L_line x3 x) (fun o10 => L_L_sum_126 (L_L_sum_110  _n) 9 x1 x3 (0 : Int32) o10.2))

def L_L_sum_73 : Nat → Int64 → Int32 → (XVal) → Option (Int64 × XVal)
  | 0, _, _, _ => none
  | _n + 1, x1, x3, x =>
    bnd (G_account (4 : Int32) x) (fun o4 => grd (o4.1 = 0) (brn (((2 : Int32) * o4.2.1) ≤ x3) (L_L_sum_110 9 x1 (0 : Int32) x) (bnd (F_L_postOf (x3 / (2 : Int32)) (x3 - x3 / (2 : Int32) * (2 : Int32)) x) (fun o16 => L_L_sum_73  _n (((41 : Int64) * x1) + o16.toInt64) (x3 + 1) x))))

def L_L_sum_33 : Nat → Int64 → Int32 → (XVal) → Option (Int64 × XVal)
  | 0, _, _, _ => none
  | _n + 1, x1, x3, x =>
    bnd (G_account (2 : Int32) x) (fun o1 => grd (o1.1 = 0) (brn (((8 : Int32) * o1.2.1) ≤ x3) (L_L_sum_73 9 x1 (0 : Int32) x) (bnd (F_L_of (x3 / (8 : Int32)) (x3 - x3 / (8 : Int32) * (8 : Int32)) x) (fun o19 => L_L_sum_33  _n (((37 : Int64) * x1) + o19.toInt64) (x3 + 1) x))))

def L_L_sum_6 : Nat → Int64 → Int32 → (XVal) → Option (Int64 × XVal)
  | 0, _, _, _ => none
  | _n + 1, x1, x3, x =>
    brn ((11 : Int32) ≤ x3) (L_L_sum_33 81 x1 (0 : Int32) x) (bnd (G_account x3 x) (fun o22 => grd (o22.1 = 0) (L_L_sum_6  _n (((31 : Int64) * x1) + o22.2.1.toInt64) (x3 + 1) x)))

def F_L_sum (x : XVal) : Option (Int64 × XVal) :=
  L_L_sum_6 12 (7 : Int64) (0 : Int32) x

theorem dL_sum_0 : decode cL_sum 0 = .ok (.ldc2_w 313, 3) := by decide +kernel
theorem dL_sum_3 : decode cL_sum 3 = .ok (.lstore_n 1, 1) := by decide +kernel
theorem dL_sum_4 : decode cL_sum 4 = .ok (.iconst 0, 1) := by decide +kernel
theorem dL_sum_5 : decode cL_sum 5 = .ok (.istore_n 3, 1) := by decide +kernel
theorem dL_sum_6 : decode cL_sum 6 = .ok (.iload_n 3, 1) := by decide +kernel
theorem dL_sum_7 : decode cL_sum 7 = .ok (.bipush 11, 2) := by decide +kernel
theorem dL_sum_9 : decode cL_sum 9 = .ok (.if_icmp .ge 22, 3) := by decide +kernel
theorem dL_sum_12 : decode cL_sum 12 = .ok (.ldc2_w 315, 3) := by decide +kernel
theorem dL_sum_15 : decode cL_sum 15 = .ok (.lload_n 1, 1) := by decide +kernel
theorem dL_sum_16 : decode cL_sum 16 = .ok (.lmul, 1) := by decide +kernel
theorem dL_sum_17 : decode cL_sum 17 = .ok (.aload_n 0, 1) := by decide +kernel
theorem dL_sum_18 : decode cL_sum 18 = .ok (.iload_n 3, 1) := by decide +kernel
theorem dL_sum_19 : decode cL_sum 19 = .ok (.invokevirtual 162, 3) := by decide +kernel
theorem dL_sum_22 : decode cL_sum 22 = .ok (.i2l, 1) := by decide +kernel
theorem dL_sum_23 : decode cL_sum 23 = .ok (.ladd, 1) := by decide +kernel
theorem dL_sum_24 : decode cL_sum 24 = .ok (.lstore_n 1, 1) := by decide +kernel
theorem dL_sum_25 : decode cL_sum 25 = .ok (.iinc 3 1, 3) := by decide +kernel
theorem dL_sum_28 : decode cL_sum 28 = .ok (.goto (-22), 3) := by decide +kernel
theorem dL_sum_31 : decode cL_sum 31 = .ok (.iconst 0, 1) := by decide +kernel
theorem dL_sum_32 : decode cL_sum 32 = .ok (.istore_n 3, 1) := by decide +kernel
theorem dL_sum_33 : decode cL_sum 33 = .ok (.iload_n 3, 1) := by decide +kernel
theorem dL_sum_34 : decode cL_sum 34 = .ok (.bipush 8, 2) := by decide +kernel
theorem dL_sum_36 : decode cL_sum 36 = .ok (.aload_n 0, 1) := by decide +kernel
theorem dL_sum_37 : decode cL_sum 37 = .ok (.iconst 2, 1) := by decide +kernel
theorem dL_sum_38 : decode cL_sum 38 = .ok (.invokevirtual 162, 3) := by decide +kernel
theorem dL_sum_41 : decode cL_sum 41 = .ok (.imul, 1) := by decide +kernel
theorem dL_sum_42 : decode cL_sum 42 = .ok (.if_icmp .ge 29, 3) := by decide +kernel
theorem dL_sum_45 : decode cL_sum 45 = .ok (.ldc2_w 317, 3) := by decide +kernel
theorem dL_sum_48 : decode cL_sum 48 = .ok (.lload_n 1, 1) := by decide +kernel
theorem dL_sum_49 : decode cL_sum 49 = .ok (.lmul, 1) := by decide +kernel
theorem dL_sum_50 : decode cL_sum 50 = .ok (.aload_n 0, 1) := by decide +kernel
theorem dL_sum_51 : decode cL_sum 51 = .ok (.iload_n 3, 1) := by decide +kernel
theorem dL_sum_52 : decode cL_sum 52 = .ok (.bipush 8, 2) := by decide +kernel
theorem dL_sum_54 : decode cL_sum 54 = .ok (.idiv, 1) := by decide +kernel
theorem dL_sum_55 : decode cL_sum 55 = .ok (.iload_n 3, 1) := by decide +kernel
theorem dL_sum_56 : decode cL_sum 56 = .ok (.bipush 8, 2) := by decide +kernel
theorem dL_sum_58 : decode cL_sum 58 = .ok (.irem, 1) := by decide +kernel
theorem dL_sum_59 : decode cL_sum 59 = .ok (.invokestatic 172, 3) := by decide +kernel
theorem dL_sum_62 : decode cL_sum 62 = .ok (.i2l, 1) := by decide +kernel
theorem dL_sum_63 : decode cL_sum 63 = .ok (.ladd, 1) := by decide +kernel
theorem dL_sum_64 : decode cL_sum 64 = .ok (.lstore_n 1, 1) := by decide +kernel
theorem dL_sum_65 : decode cL_sum 65 = .ok (.iinc 3 1, 3) := by decide +kernel
theorem dL_sum_68 : decode cL_sum 68 = .ok (.goto (-35), 3) := by decide +kernel
theorem dL_sum_71 : decode cL_sum 71 = .ok (.iconst 0, 1) := by decide +kernel
theorem dL_sum_72 : decode cL_sum 72 = .ok (.istore_n 3, 1) := by decide +kernel
theorem dL_sum_73 : decode cL_sum 73 = .ok (.iload_n 3, 1) := by decide +kernel
theorem dL_sum_74 : decode cL_sum 74 = .ok (.iconst 2, 1) := by decide +kernel
theorem dL_sum_75 : decode cL_sum 75 = .ok (.aload_n 0, 1) := by decide +kernel
theorem dL_sum_76 : decode cL_sum 76 = .ok (.iconst 4, 1) := by decide +kernel
theorem dL_sum_77 : decode cL_sum 77 = .ok (.invokevirtual 162, 3) := by decide +kernel
theorem dL_sum_80 : decode cL_sum 80 = .ok (.imul, 1) := by decide +kernel
theorem dL_sum_81 : decode cL_sum 81 = .ok (.if_icmp .ge 27, 3) := by decide +kernel
theorem dL_sum_84 : decode cL_sum 84 = .ok (.ldc2_w 319, 3) := by decide +kernel
theorem dL_sum_87 : decode cL_sum 87 = .ok (.lload_n 1, 1) := by decide +kernel
theorem dL_sum_88 : decode cL_sum 88 = .ok (.lmul, 1) := by decide +kernel
theorem dL_sum_89 : decode cL_sum 89 = .ok (.aload_n 0, 1) := by decide +kernel
theorem dL_sum_90 : decode cL_sum 90 = .ok (.iload_n 3, 1) := by decide +kernel
theorem dL_sum_91 : decode cL_sum 91 = .ok (.iconst 2, 1) := by decide +kernel
theorem dL_sum_92 : decode cL_sum 92 = .ok (.idiv, 1) := by decide +kernel
theorem dL_sum_93 : decode cL_sum 93 = .ok (.iload_n 3, 1) := by decide +kernel
theorem dL_sum_94 : decode cL_sum 94 = .ok (.iconst 2, 1) := by decide +kernel
theorem dL_sum_95 : decode cL_sum 95 = .ok (.irem, 1) := by decide +kernel
theorem dL_sum_96 : decode cL_sum 96 = .ok (.invokestatic 244, 3) := by decide +kernel
theorem dL_sum_99 : decode cL_sum 99 = .ok (.i2l, 1) := by decide +kernel
theorem dL_sum_100 : decode cL_sum 100 = .ok (.ladd, 1) := by decide +kernel
theorem dL_sum_101 : decode cL_sum 101 = .ok (.lstore_n 1, 1) := by decide +kernel
theorem dL_sum_102 : decode cL_sum 102 = .ok (.iinc 3 1, 3) := by decide +kernel
theorem dL_sum_105 : decode cL_sum 105 = .ok (.goto (-32), 3) := by decide +kernel
theorem dL_sum_108 : decode cL_sum 108 = .ok (.iconst 0, 1) := by decide +kernel
theorem dL_sum_109 : decode cL_sum 109 = .ok (.istore_n 3, 1) := by decide +kernel
theorem dL_sum_110 : decode cL_sum 110 = .ok (.iload_n 3, 1) := by decide +kernel
theorem dL_sum_111 : decode cL_sum 111 = .ok (.bipush 8, 2) := by decide +kernel
theorem dL_sum_113 : decode cL_sum 113 = .ok (.if_icmp .ge 46, 3) := by decide +kernel
theorem dL_sum_116 : decode cL_sum 116 = .ok (.aload_n 0, 1) := by decide +kernel
theorem dL_sum_117 : decode cL_sum 117 = .ok (.iload_n 3, 1) := by decide +kernel
theorem dL_sum_118 : decode cL_sum 118 = .ok (.invokestatic 276, 3) := by decide +kernel
theorem dL_sum_121 : decode cL_sum 121 = .ok (.istore 4, 2) := by decide +kernel
theorem dL_sum_123 : decode cL_sum 123 = .ok (.iconst 0, 1) := by decide +kernel
theorem dL_sum_124 : decode cL_sum 124 = .ok (.istore 5, 2) := by decide +kernel
theorem dL_sum_126 : decode cL_sum 126 = .ok (.iload 5, 2) := by decide +kernel
theorem dL_sum_128 : decode cL_sum 128 = .ok (.bipush 8, 2) := by decide +kernel
theorem dL_sum_130 : decode cL_sum 130 = .ok (.if_icmp .ge 23, 3) := by decide +kernel
theorem dL_sum_133 : decode cL_sum 133 = .ok (.ldc2_w 321, 3) := by decide +kernel
theorem dL_sum_136 : decode cL_sum 136 = .ok (.lload_n 1, 1) := by decide +kernel
theorem dL_sum_137 : decode cL_sum 137 = .ok (.lmul, 1) := by decide +kernel
theorem dL_sum_138 : decode cL_sum 138 = .ok (.aload_n 0, 1) := by decide +kernel
theorem dL_sum_139 : decode cL_sum 139 = .ok (.iload 5, 2) := by decide +kernel
theorem dL_sum_141 : decode cL_sum 141 = .ok (.invokestatic 274, 3) := by decide +kernel
theorem dL_sum_144 : decode cL_sum 144 = .ok (.i2l, 1) := by decide +kernel
theorem dL_sum_145 : decode cL_sum 145 = .ok (.ladd, 1) := by decide +kernel
theorem dL_sum_146 : decode cL_sum 146 = .ok (.lstore_n 1, 1) := by decide +kernel
theorem dL_sum_147 : decode cL_sum 147 = .ok (.iinc 5 1, 3) := by decide +kernel
theorem dL_sum_150 : decode cL_sum 150 = .ok (.goto (-24), 3) := by decide +kernel
theorem dL_sum_153 : decode cL_sum 153 = .ok (.iinc 3 1, 3) := by decide +kernel
theorem dL_sum_156 : decode cL_sum 156 = .ok (.goto (-46), 3) := by decide +kernel
theorem dL_sum_159 : decode cL_sum 159 = .ok (.iconst 0, 1) := by decide +kernel
theorem dL_sum_160 : decode cL_sum 160 = .ok (.istore_n 3, 1) := by decide +kernel
theorem dL_sum_161 : decode cL_sum 161 = .ok (.iload_n 3, 1) := by decide +kernel
theorem dL_sum_162 : decode cL_sum 162 = .ok (.iconst 4, 1) := by decide +kernel
theorem dL_sum_163 : decode cL_sum 163 = .ok (.if_icmp .ge 22, 3) := by decide +kernel
theorem dL_sum_166 : decode cL_sum 166 = .ok (.ldc2_w 323, 3) := by decide +kernel
theorem dL_sum_169 : decode cL_sum 169 = .ok (.lload_n 1, 1) := by decide +kernel
theorem dL_sum_170 : decode cL_sum 170 = .ok (.lmul, 1) := by decide +kernel
theorem dL_sum_171 : decode cL_sum 171 = .ok (.aload_n 0, 1) := by decide +kernel
theorem dL_sum_172 : decode cL_sum 172 = .ok (.iload_n 3, 1) := by decide +kernel
theorem dL_sum_173 : decode cL_sum 173 = .ok (.invokestatic 216, 3) := by decide +kernel
theorem dL_sum_176 : decode cL_sum 176 = .ok (.i2l, 1) := by decide +kernel
theorem dL_sum_177 : decode cL_sum 177 = .ok (.ladd, 1) := by decide +kernel
theorem dL_sum_178 : decode cL_sum 178 = .ok (.lstore_n 1, 1) := by decide +kernel
theorem dL_sum_179 : decode cL_sum 179 = .ok (.iinc 3 1, 3) := by decide +kernel
theorem dL_sum_182 : decode cL_sum 182 = .ok (.goto (-21), 3) := by decide +kernel
theorem dL_sum_185 : decode cL_sum 185 = .ok (.lload_n 1, 1) := by decide +kernel
theorem dL_sum_186 : decode cL_sum 186 = .ok (.lreturn, 1) := by decide +kernel
theorem k_L_sum : cardS yL_sum (Cond.code yL_sum cL_sum 6 (some .long)) 1 := ⟨qs_L_sum, qc_L_sum, qn_L, by decide +kernel, by decide +kernel, by decide +kernel⟩
set_option maxHeartbeats 4000000 in
set_option maxRecDepth 100000 in
theorem c_L_sum (l : Launch) (hfl : l.stackTraces = false) (ev : LEv) (D : va_G) (g : Nat → ClassId) (ad : Nat → Nat → Nat) (ax : Nat → Nat) (x : XVal) (o : Int64 × XVal) (h : F_L_sum x = some o) : MG l yL_sum (Cond.code yL_sum cL_sum 6 (some .long)) { frames := 10, cells := 386, slots := 2316, locals := 175 } (KF ev) D g [.ref (ax 0)] ([] ++ OW g ax ad x) (some (.long o.1)) ([] ++ OW g ax ad o.2) 386 2316 := by
  refine z_g_start (by decide) (Nat.le_of_ble_eq_true rfl) ?_
  intro p e s m args below meth c Q A X hr hK hA hQ
  refine z_lv (lv' := [(0, .ref (ax 0))]) rfl ?_
  have H161 : ∀ (n : Nat) (x1 : Int64) (x3 : Int32) (x : XVal) (c161 s161 : Nat), c161 + 1 * n ≤ 386 → s161 + 6 * n ≤ 2316 → L_L_sum_161 n x1 x3 x = some o → Z p l e { frames := 10, cells := 386, slots := 2316, locals := 175 } s m args below meth c Q 6 c161 s161 (IW D A s ([] ++ OW g ax ad x)) 161 [(0, .ref (ax 0)), (1, .long x1), (3, .int x3)] [] := by
    intro n
    induction n with
    | zero => intro x1 x3 x c161 s161 _ _ h; cases h
    | succ n161 ih161 =>
      intro x1 x3 x c161 s161 hc161 hs161 h
      refine z_iload_n X 2 dL_sum_161 rfl rfl ?_
      refine z_iconst X (4 : Int32) dL_sum_162 (by decide) ?_
      refine z_icmp_ge X 185 dL_sum_163 (by decide) h (fun _ h => ?_) (fun _ h => ?_)
      · refine z_widen (k := 386) (n := 2316) (by omega) (by omega) ?_
        refine z_lload_n X 1 dL_sum_185 rfl rfl ?_
        cases h
        exact z_llret X hQ (by first | exact Nat.le_of_ble_eq_true rfl | omega) (by first | exact Nat.le_of_ble_eq_true rfl | omega) hr dL_sum_186
      · refine z_ldcJ (47 : Int64) X qK_L_323 dL_sum_166 ?_
        refine z_lload_n X 1 dL_sum_169 rfl rfl ?_
        refine z_lmul X dL_sum_170 ?_
        refine z_aload_n X 0 dL_sum_171 rfl rfl ?_
        refine z_iload_n X 2 dL_sum_172 rfl rfl ?_
        obtain ⟨o7, e8, h⟩ := bnd_p h
        have f9 := bk_appP (X := OW g ax ad x) (X' := OW g ax ad x) (perm_of (n := 0) (E := []) (wc := []) (wr := []) [] [] rfl rfl rfl (by decide +kernel)) (perm_of (n := 0) (E := []) (wc := []) (wr := []) [] [] rfl rfl rfl (by decide +kernel)) rfl OW_fst
        refine z_gSH (rest := [.long ((47 : Int64) * x1)]) (ws' := ([] ++ OW g ax ad x)) X (KF_ok ev) (kc_of (KF_ok ev) (fun _ _ _ q => q) hK hA f9.1) hA k_L_rings (c_L_rings l hfl ev D g ad ax x3 x o7 e8) ql_L_L_rings dL_sum_173 f9.1 f9.2 rfl rfl ⟨Nat.le_of_ble_eq_true rfl, Nat.le_of_ble_eq_true rfl, rfl, rfl, (Nat.le_trans (m := 386) (by first | exact Nat.le_of_ble_eq_true rfl | omega) (Nat.le_of_ble_eq_true rfl)), (Nat.le_trans (m := 2316) (by first | exact Nat.le_of_ble_eq_true rfl | omega) (Nat.le_of_ble_eq_true rfl))⟩ (Nat.le_of_ble_eq_true rfl) ?_
        refine z_i2l X dL_sum_176 ?_
        refine z_ladd X dL_sum_177 ?_
        refine z_lstore_n X [(1, .long (((47 : Int64) * x1) + o7.toInt64)), (0, .ref (ax 0)), (3, .int x3)] dL_sum_178 rfl (by decide) rfl ?_
        refine z_iinc X 2 [(3, .int (x3 + 1)), (1, .long (((47 : Int64) * x1) + o7.toInt64)), (0, .ref (ax 0))] dL_sum_179 rfl rfl (by decide) rfl ?_
        refine z_goto X 161 dL_sum_182 (by decide) ?_
        refine z_sub (lv' := [(0, .ref (ax 0)), (1, .long (((47 : Int64) * x1) + o7.toInt64)), (3, .int (x3 + 1))]) [2, 1, 0] rfl ?_
        exact ih161 (((47 : Int64) * x1) + o7.toInt64) (x3 + 1) x _ _ (by omega) (by omega) h
  have H110 : ∀ (n : Nat) (x1 : Int64) (x3 : Int32) (x : XVal) (c110 s110 : Nat), c110 + 10 * n ≤ 381 → s110 + 60 * n ≤ 2286 → L_L_sum_110 n x1 x3 x = some o → Z p l e { frames := 10, cells := 386, slots := 2316, locals := 175 } s m args below meth c Q 6 c110 s110 (IW D A s ([] ++ OW g ax ad x)) 110 [(0, .ref (ax 0)), (1, .long x1), (3, .int x3)] [] := by
    intro n
    induction n with
    | zero => intro x1 x3 x c110 s110 _ _ h; cases h
    | succ n110 ih110 =>
      intro x1 x3 x c110 s110 hc110 hs110 h
      have H126 : ∀ (n : Nat) (x1 : Int64) (x3 : Int32) (x5 : Int32) (x : XVal) (c126 s126 : Nat), c126 + 1 * n ≤ (c110 + 10) → s126 + 6 * n ≤ (s110 + 60) → L_L_sum_126 (L_L_sum_110 n110) n x1 x3 x5 x = some o → Z p l e { frames := 10, cells := 386, slots := 2316, locals := 175 } s m args below meth c Q 6 c126 s126 (IW D A s ([] ++ OW g ax ad x)) 126 [(0, .ref (ax 0)), (1, .long x1), (3, .int x3), (5, .int x5)] [] := by
        intro n
        induction n with
        | zero => intro x1 x3 x5 x c126 s126 _ _ h; cases h
        | succ n126 ih126 =>
          intro x1 x3 x5 x c126 s126 hc126 hs126 h
          refine z_iload X 3 dL_sum_126 rfl ?_
          refine z_bipush X (8 : Int32) dL_sum_128 (by decide) ?_
          refine z_icmp_ge X 153 dL_sum_130 (by decide) h (fun _ h => ?_) (fun _ h => ?_)
          · refine z_widen (k := (c110 + 10)) (n := (s110 + 60)) (by omega) (by omega) ?_
            refine z_iinc X 2 [(3, .int (x3 + 1)), (0, .ref (ax 0)), (1, .long x1), (5, .int x5)] dL_sum_153 rfl rfl (by decide) rfl ?_
            refine z_goto X 110 dL_sum_156 (by decide) ?_
            refine z_sub (lv' := [(0, .ref (ax 0)), (1, .long x1), (3, .int (x3 + 1))]) [1, 2, 0] rfl ?_
            exact ih110 x1 (x3 + 1) x _ _ (by omega) (by omega) h
          · refine z_ldcJ (43 : Int64) X qK_L_321 dL_sum_133 ?_
            refine z_lload_n X 1 dL_sum_136 rfl rfl ?_
            refine z_lmul X dL_sum_137 ?_
            refine z_aload_n X 0 dL_sum_138 rfl rfl ?_
            refine z_iload X 3 dL_sum_139 rfl ?_
            obtain ⟨o13, e14, h⟩ := bnd_p h
            have f15 := bk_appP (X := OW g ax ad x) (X' := OW g ax ad x) (perm_of (n := 0) (E := []) (wc := []) (wr := []) [] [] rfl rfl rfl (by decide +kernel)) (perm_of (n := 0) (E := []) (wc := []) (wr := []) [] [] rfl rfl rfl (by decide +kernel)) rfl OW_fst
            refine z_gSH (rest := [.long ((43 : Int64) * x1)]) (ws' := ([] ++ OW g ax ad x)) X (KF_ok ev) (kc_of (KF_ok ev) (fun _ _ _ q => q) hK hA f15.1) hA k_L_character (c_L_character l hfl ev D g ad ax x5 x o13 e14) ql_L_L_character dL_sum_141 f15.1 f15.2 rfl rfl ⟨Nat.le_of_ble_eq_true rfl, Nat.le_of_ble_eq_true rfl, rfl, rfl, (Nat.le_trans (m := 386) (by first | exact Nat.le_of_ble_eq_true rfl | omega) (Nat.le_of_ble_eq_true rfl)), (Nat.le_trans (m := 2316) (by first | exact Nat.le_of_ble_eq_true rfl | omega) (Nat.le_of_ble_eq_true rfl))⟩ (Nat.le_of_ble_eq_true rfl) ?_
            refine z_i2l X dL_sum_144 ?_
            refine z_ladd X dL_sum_145 ?_
            refine z_lstore_n X [(1, .long (((43 : Int64) * x1) + o13.toInt64)), (0, .ref (ax 0)), (3, .int x3), (5, .int x5)] dL_sum_146 rfl (by decide) rfl ?_
            refine z_iinc X 3 [(5, .int (x5 + 1)), (1, .long (((43 : Int64) * x1) + o13.toInt64)), (0, .ref (ax 0)), (3, .int x3)] dL_sum_147 rfl rfl (by decide) rfl ?_
            refine z_goto X 126 dL_sum_150 (by decide) ?_
            refine z_sub (lv' := [(0, .ref (ax 0)), (1, .long (((43 : Int64) * x1) + o13.toInt64)), (3, .int x3), (5, .int (x5 + 1))]) [2, 1, 3, 0] rfl ?_
            exact ih126 (((43 : Int64) * x1) + o13.toInt64) x3 (x5 + 1) x _ _ (by omega) (by omega) h
      refine z_iload_n X 2 dL_sum_110 rfl rfl ?_
      refine z_bipush X (8 : Int32) dL_sum_111 (by decide) ?_
      refine z_icmp_ge X 159 dL_sum_113 (by decide) h (fun _ h => ?_) (fun _ h => ?_)
      · refine z_widen (k := 381) (n := 2286) (by omega) (by omega) ?_
        refine z_iconst X (0 : Int32) dL_sum_159 (by decide) ?_
        refine z_istore_n X [(3, .int (0 : Int32)), (0, .ref (ax 0)), (1, .long x1)] dL_sum_160 rfl (by decide) rfl ?_
        refine z_sub (lv' := [(0, .ref (ax 0)), (1, .long x1), (3, .int (0 : Int32))]) [1, 2, 0] rfl ?_
        exact H161 5 x1 (0 : Int32) x _ _ (by first | exact Nat.le_of_ble_eq_true rfl | omega) (by first | exact Nat.le_of_ble_eq_true rfl | omega) h
      · refine z_aload_n X 0 dL_sum_116 rfl rfl ?_
        refine z_iload_n X 2 dL_sum_117 rfl rfl ?_
        obtain ⟨o10, e11, h⟩ := bnd_p h
        have f12 := bk_appP (X := OW g ax ad x) (X' := OW g ax ad o10.2) (perm_of (n := 0) (E := []) (wc := []) (wr := []) [] [] rfl rfl rfl (by decide +kernel)) (perm_of (n := 0) (E := []) (wc := []) (wr := []) [] [] rfl rfl rfl (by decide +kernel)) rfl OW_fst
        refine z_gSH (rest := []) (ws' := ([] ++ OW g ax ad o10.2)) X (KF_ok ev) (kc_of (KF_ok ev) (fun _ _ _ q => q) hK hA f12.1) hA k_L_line (c_L_line l hfl ev D g ad ax x3 x o10 e11) ql_L_L_line dL_sum_118 f12.1 f12.2 rfl rfl ⟨Nat.le_of_ble_eq_true rfl, Nat.le_of_ble_eq_true rfl, rfl, rfl, (Nat.le_trans (m := 386) (by first | exact Nat.le_of_ble_eq_true rfl | omega) (Nat.le_of_ble_eq_true rfl)), (Nat.le_trans (m := 2316) (by first | exact Nat.le_of_ble_eq_true rfl | omega) (Nat.le_of_ble_eq_true rfl))⟩ (Nat.le_of_ble_eq_true rfl) ?_
        refine z_istore X [(4, .int o10.1), (0, .ref (ax 0)), (1, .long x1), (3, .int x3)] dL_sum_121 (by decide) rfl ?_
        refine z_iconst X (0 : Int32) dL_sum_123 (by decide) ?_
        refine z_istore X [(5, .int (0 : Int32)), (4, .int o10.1), (0, .ref (ax 0)), (1, .long x1), (3, .int x3)] dL_sum_124 (by decide) rfl ?_
        refine z_sub (lv' := [(0, .ref (ax 0)), (1, .long x1), (3, .int x3), (5, .int (0 : Int32))]) [2, 3, 4, 0] rfl ?_
        exact H126 9 x1 x3 (0 : Int32) o10.2 _ _ (by first | exact Nat.le_of_ble_eq_true rfl | omega) (by first | exact Nat.le_of_ble_eq_true rfl | omega) h
  have H73 : ∀ (n : Nat) (x1 : Int64) (x3 : Int32) (x : XVal) (c73 s73 : Nat), c73 + 4 * n ≤ 291 → s73 + 24 * n ≤ 1746 → L_L_sum_73 n x1 x3 x = some o → Z p l e { frames := 10, cells := 386, slots := 2316, locals := 175 } s m args below meth c Q 6 c73 s73 (IW D A s ([] ++ OW g ax ad x)) 73 [(0, .ref (ax 0)), (1, .long x1), (3, .int x3)] [] := by
    intro n
    induction n with
    | zero => intro x1 x3 x c73 s73 _ _ h; cases h
    | succ n73 ih73 =>
      intro x1 x3 x c73 s73 hc73 hs73 h
      refine z_iload_n X 2 dL_sum_73 rfl rfl ?_
      refine z_iconst X (2 : Int32) dL_sum_74 (by decide) ?_
      refine z_aload_n X 0 dL_sum_75 rfl rfl ?_
      refine z_iconst X (4 : Int32) dL_sum_76 (by decide) ?_
      obtain ⟨o4, e5, h⟩ := bnd_p h
      obtain ⟨hz6, h⟩ := grd_p h
      obtain ⟨wco4, wdo4, hNo4, bo4, do4, xo4⟩ := nx_account l hfl ev.ak ev.av ev.aS D g ad ax (4 : Int32) x o4.1 o4.2.1 o4.2.2 e5
      rw [xo4] at do4
      have fo4 := bk_E (E := []) bo4 do4
      refine z_exV (rest := [.int (2 : Int32), .int x3]) (q0 := 0) (ci := 11) (ws' := ([] ++ OW g ax ad x)) X hK.1 hA k_X11_account hNo4 ql_L_X11_account dL_sum_77 fo4.1 fo4.2 rfl rfl rfl rfl rfl ⟨Nat.le_of_ble_eq_true rfl, Nat.le_of_ble_eq_true rfl, rfl, rfl, (Nat.le_trans (m := 386) (by first | exact Nat.le_of_ble_eq_true rfl | omega) (Nat.le_of_ble_eq_true rfl)), (Nat.le_trans (m := 2316) (by first | exact Nat.le_of_ble_eq_true rfl | omega) (Nat.le_of_ble_eq_true rfl))⟩ (Nat.le_of_ble_eq_true rfl) (fun _ => ?_) (fun q => absurd hz6 q)
      refine z_imul X dL_sum_80 ?_
      refine z_icmp_ge X 108 dL_sum_81 (by decide) h (fun _ h => ?_) (fun _ h => ?_)
      · refine z_widen (k := 291) (n := 1746) (by omega) (by omega) ?_
        refine z_iconst X (0 : Int32) dL_sum_108 (by decide) ?_
        refine z_istore_n X [(3, .int (0 : Int32)), (0, .ref (ax 0)), (1, .long x1)] dL_sum_109 rfl (by decide) rfl ?_
        refine z_sub (lv' := [(0, .ref (ax 0)), (1, .long x1), (3, .int (0 : Int32))]) [1, 2, 0] rfl ?_
        exact H110 9 x1 (0 : Int32) x _ _ (by first | exact Nat.le_of_ble_eq_true rfl | omega) (by first | exact Nat.le_of_ble_eq_true rfl | omega) h
      · refine z_ldcJ (41 : Int64) X qK_L_319 dL_sum_84 ?_
        refine z_lload_n X 1 dL_sum_87 rfl rfl ?_
        refine z_lmul X dL_sum_88 ?_
        refine z_aload_n X 0 dL_sum_89 rfl rfl ?_
        refine z_iload_n X 2 dL_sum_90 rfl rfl ?_
        refine z_iconst X (2 : Int32) dL_sum_91 (by decide) ?_
        refine z_idiv X dL_sum_92 (by decide) ?_
        refine z_iload_n X 2 dL_sum_93 rfl rfl ?_
        refine z_iconst X (2 : Int32) dL_sum_94 (by decide) ?_
        refine z_irem X dL_sum_95 (by decide) ?_
        obtain ⟨o16, e17, h⟩ := bnd_p h
        have f18 := bk_appP (X := OW g ax ad x) (X' := OW g ax ad x) (perm_of (n := 0) (E := []) (wc := []) (wr := []) [] [] rfl rfl rfl (by decide +kernel)) (perm_of (n := 0) (E := []) (wc := []) (wr := []) [] [] rfl rfl rfl (by decide +kernel)) rfl OW_fst
        refine z_gSH (rest := [.long ((41 : Int64) * x1)]) (ws' := ([] ++ OW g ax ad x)) X (KF_ok ev) (kc_of (KF_ok ev) (fun _ _ _ q => q) hK hA f18.1) hA k_L_postOf (c_L_postOf l hfl ev D g ad ax (x3 / (2 : Int32)) (x3 - x3 / (2 : Int32) * (2 : Int32)) x o16 e17) ql_L_L_postOf dL_sum_96 f18.1 f18.2 rfl rfl ⟨Nat.le_of_ble_eq_true rfl, Nat.le_of_ble_eq_true rfl, rfl, rfl, (Nat.le_trans (m := 386) (by first | exact Nat.le_of_ble_eq_true rfl | omega) (Nat.le_of_ble_eq_true rfl)), (Nat.le_trans (m := 2316) (by first | exact Nat.le_of_ble_eq_true rfl | omega) (Nat.le_of_ble_eq_true rfl))⟩ (Nat.le_of_ble_eq_true rfl) ?_
        refine z_i2l X dL_sum_99 ?_
        refine z_ladd X dL_sum_100 ?_
        refine z_lstore_n X [(1, .long (((41 : Int64) * x1) + o16.toInt64)), (0, .ref (ax 0)), (3, .int x3)] dL_sum_101 rfl (by decide) rfl ?_
        refine z_iinc X 2 [(3, .int (x3 + 1)), (1, .long (((41 : Int64) * x1) + o16.toInt64)), (0, .ref (ax 0))] dL_sum_102 rfl rfl (by decide) rfl ?_
        refine z_goto X 73 dL_sum_105 (by decide) ?_
        refine z_sub (lv' := [(0, .ref (ax 0)), (1, .long (((41 : Int64) * x1) + o16.toInt64)), (3, .int (x3 + 1))]) [2, 1, 0] rfl ?_
        exact ih73 (((41 : Int64) * x1) + o16.toInt64) (x3 + 1) x _ _ (by omega) (by omega) h
  have H33 : ∀ (n : Nat) (x1 : Int64) (x3 : Int32) (x : XVal) (c33 s33 : Nat), c33 + 3 * n ≤ 255 → s33 + 18 * n ≤ 1530 → L_L_sum_33 n x1 x3 x = some o → Z p l e { frames := 10, cells := 386, slots := 2316, locals := 175 } s m args below meth c Q 6 c33 s33 (IW D A s ([] ++ OW g ax ad x)) 33 [(0, .ref (ax 0)), (1, .long x1), (3, .int x3)] [] := by
    intro n
    induction n with
    | zero => intro x1 x3 x c33 s33 _ _ h; cases h
    | succ n33 ih33 =>
      intro x1 x3 x c33 s33 hc33 hs33 h
      refine z_iload_n X 2 dL_sum_33 rfl rfl ?_
      refine z_bipush X (8 : Int32) dL_sum_34 (by decide) ?_
      refine z_aload_n X 0 dL_sum_36 rfl rfl ?_
      refine z_iconst X (2 : Int32) dL_sum_37 (by decide) ?_
      obtain ⟨o1, e2, h⟩ := bnd_p h
      obtain ⟨hz3, h⟩ := grd_p h
      obtain ⟨wco1, wdo1, hNo1, bo1, do1, xo1⟩ := nx_account l hfl ev.ak ev.av ev.aS D g ad ax (2 : Int32) x o1.1 o1.2.1 o1.2.2 e2
      rw [xo1] at do1
      have fo1 := bk_E (E := []) bo1 do1
      refine z_exV (rest := [.int (8 : Int32), .int x3]) (q0 := 0) (ci := 11) (ws' := ([] ++ OW g ax ad x)) X hK.1 hA k_X11_account hNo1 ql_L_X11_account dL_sum_38 fo1.1 fo1.2 rfl rfl rfl rfl rfl ⟨Nat.le_of_ble_eq_true rfl, Nat.le_of_ble_eq_true rfl, rfl, rfl, (Nat.le_trans (m := 386) (by first | exact Nat.le_of_ble_eq_true rfl | omega) (Nat.le_of_ble_eq_true rfl)), (Nat.le_trans (m := 2316) (by first | exact Nat.le_of_ble_eq_true rfl | omega) (Nat.le_of_ble_eq_true rfl))⟩ (Nat.le_of_ble_eq_true rfl) (fun _ => ?_) (fun q => absurd hz3 q)
      refine z_imul X dL_sum_41 ?_
      refine z_icmp_ge X 71 dL_sum_42 (by decide) h (fun _ h => ?_) (fun _ h => ?_)
      · refine z_widen (k := 255) (n := 1530) (by omega) (by omega) ?_
        refine z_iconst X (0 : Int32) dL_sum_71 (by decide) ?_
        refine z_istore_n X [(3, .int (0 : Int32)), (0, .ref (ax 0)), (1, .long x1)] dL_sum_72 rfl (by decide) rfl ?_
        refine z_sub (lv' := [(0, .ref (ax 0)), (1, .long x1), (3, .int (0 : Int32))]) [1, 2, 0] rfl ?_
        exact H73 9 x1 (0 : Int32) x _ _ (by first | exact Nat.le_of_ble_eq_true rfl | omega) (by first | exact Nat.le_of_ble_eq_true rfl | omega) h
      · refine z_ldcJ (37 : Int64) X qK_L_317 dL_sum_45 ?_
        refine z_lload_n X 1 dL_sum_48 rfl rfl ?_
        refine z_lmul X dL_sum_49 ?_
        refine z_aload_n X 0 dL_sum_50 rfl rfl ?_
        refine z_iload_n X 2 dL_sum_51 rfl rfl ?_
        refine z_bipush X (8 : Int32) dL_sum_52 (by decide) ?_
        refine z_idiv X dL_sum_54 (by decide) ?_
        refine z_iload_n X 2 dL_sum_55 rfl rfl ?_
        refine z_bipush X (8 : Int32) dL_sum_56 (by decide) ?_
        refine z_irem X dL_sum_58 (by decide) ?_
        obtain ⟨o19, e20, h⟩ := bnd_p h
        have f21 := bk_appP (X := OW g ax ad x) (X' := OW g ax ad x) (perm_of (n := 0) (E := []) (wc := []) (wr := []) [] [] rfl rfl rfl (by decide +kernel)) (perm_of (n := 0) (E := []) (wc := []) (wr := []) [] [] rfl rfl rfl (by decide +kernel)) rfl OW_fst
        refine z_gSH (rest := [.long ((37 : Int64) * x1)]) (ws' := ([] ++ OW g ax ad x)) X (KF_ok ev) (kc_of (KF_ok ev) (fun _ _ _ q => q) hK hA f21.1) hA k_L_of (c_L_of l hfl ev D g ad ax (x3 / (8 : Int32)) (x3 - x3 / (8 : Int32) * (8 : Int32)) x o19 e20) ql_L_L_of dL_sum_59 f21.1 f21.2 rfl rfl ⟨Nat.le_of_ble_eq_true rfl, Nat.le_of_ble_eq_true rfl, rfl, rfl, (Nat.le_trans (m := 386) (by first | exact Nat.le_of_ble_eq_true rfl | omega) (Nat.le_of_ble_eq_true rfl)), (Nat.le_trans (m := 2316) (by first | exact Nat.le_of_ble_eq_true rfl | omega) (Nat.le_of_ble_eq_true rfl))⟩ (Nat.le_of_ble_eq_true rfl) ?_
        refine z_i2l X dL_sum_62 ?_
        refine z_ladd X dL_sum_63 ?_
        refine z_lstore_n X [(1, .long (((37 : Int64) * x1) + o19.toInt64)), (0, .ref (ax 0)), (3, .int x3)] dL_sum_64 rfl (by decide) rfl ?_
        refine z_iinc X 2 [(3, .int (x3 + 1)), (1, .long (((37 : Int64) * x1) + o19.toInt64)), (0, .ref (ax 0))] dL_sum_65 rfl rfl (by decide) rfl ?_
        refine z_goto X 33 dL_sum_68 (by decide) ?_
        refine z_sub (lv' := [(0, .ref (ax 0)), (1, .long (((37 : Int64) * x1) + o19.toInt64)), (3, .int (x3 + 1))]) [2, 1, 0] rfl ?_
        exact ih33 (((37 : Int64) * x1) + o19.toInt64) (x3 + 1) x _ _ (by omega) (by omega) h
  have H6 : ∀ (n : Nat) (x1 : Int64) (x3 : Int32) (x : XVal) (c6 s6 : Nat), c6 + 1 * n ≤ 12 → s6 + 6 * n ≤ 72 → L_L_sum_6 n x1 x3 x = some o → Z p l e { frames := 10, cells := 386, slots := 2316, locals := 175 } s m args below meth c Q 6 c6 s6 (IW D A s ([] ++ OW g ax ad x)) 6 [(0, .ref (ax 0)), (1, .long x1), (3, .int x3)] [] := by
    intro n
    induction n with
    | zero => intro x1 x3 x c6 s6 _ _ h; cases h
    | succ n6 ih6 =>
      intro x1 x3 x c6 s6 hc6 hs6 h
      refine z_iload_n X 2 dL_sum_6 rfl rfl ?_
      refine z_bipush X (11 : Int32) dL_sum_7 (by decide) ?_
      refine z_icmp_ge X 31 dL_sum_9 (by decide) h (fun _ h => ?_) (fun _ h => ?_)
      · refine z_widen (k := 12) (n := 72) (by omega) (by omega) ?_
        refine z_iconst X (0 : Int32) dL_sum_31 (by decide) ?_
        refine z_istore_n X [(3, .int (0 : Int32)), (0, .ref (ax 0)), (1, .long x1)] dL_sum_32 rfl (by decide) rfl ?_
        refine z_sub (lv' := [(0, .ref (ax 0)), (1, .long x1), (3, .int (0 : Int32))]) [1, 2, 0] rfl ?_
        exact H33 81 x1 (0 : Int32) x _ _ (by first | exact Nat.le_of_ble_eq_true rfl | omega) (by first | exact Nat.le_of_ble_eq_true rfl | omega) h
      · refine z_ldcJ (31 : Int64) X qK_L_315 dL_sum_12 ?_
        refine z_lload_n X 1 dL_sum_15 rfl rfl ?_
        refine z_lmul X dL_sum_16 ?_
        refine z_aload_n X 0 dL_sum_17 rfl rfl ?_
        refine z_iload_n X 2 dL_sum_18 rfl rfl ?_
        obtain ⟨o22, e23, h⟩ := bnd_p h
        obtain ⟨hz24, h⟩ := grd_p h
        obtain ⟨wco22, wdo22, hNo22, bo22, do22, xo22⟩ := nx_account l hfl ev.ak ev.av ev.aS D g ad ax x3 x o22.1 o22.2.1 o22.2.2 e23
        rw [xo22] at do22
        have fo22 := bk_E (E := []) bo22 do22
        refine z_exV (rest := [.long ((31 : Int64) * x1)]) (q0 := 0) (ci := 11) (ws' := ([] ++ OW g ax ad x)) X hK.1 hA k_X11_account hNo22 ql_L_X11_account dL_sum_19 fo22.1 fo22.2 rfl rfl rfl rfl rfl ⟨Nat.le_of_ble_eq_true rfl, Nat.le_of_ble_eq_true rfl, rfl, rfl, (Nat.le_trans (m := 386) (by first | exact Nat.le_of_ble_eq_true rfl | omega) (Nat.le_of_ble_eq_true rfl)), (Nat.le_trans (m := 2316) (by first | exact Nat.le_of_ble_eq_true rfl | omega) (Nat.le_of_ble_eq_true rfl))⟩ (Nat.le_of_ble_eq_true rfl) (fun _ => ?_) (fun q => absurd hz24 q)
        refine z_i2l X dL_sum_22 ?_
        refine z_ladd X dL_sum_23 ?_
        refine z_lstore_n X [(1, .long (((31 : Int64) * x1) + o22.2.1.toInt64)), (0, .ref (ax 0)), (3, .int x3)] dL_sum_24 rfl (by decide) rfl ?_
        refine z_iinc X 2 [(3, .int (x3 + 1)), (1, .long (((31 : Int64) * x1) + o22.2.1.toInt64)), (0, .ref (ax 0))] dL_sum_25 rfl rfl (by decide) rfl ?_
        refine z_goto X 6 dL_sum_28 (by decide) ?_
        refine z_sub (lv' := [(0, .ref (ax 0)), (1, .long (((31 : Int64) * x1) + o22.2.1.toInt64)), (3, .int (x3 + 1))]) [2, 1, 0] rfl ?_
        exact ih6 (((31 : Int64) * x1) + o22.2.1.toInt64) (x3 + 1) x _ _ (by omega) (by omega) h
  refine z_ldcJ (7 : Int64) X qK_L_313 dL_sum_0 ?_
  refine z_lstore_n X [(1, .long (7 : Int64)), (0, .ref (ax 0))] dL_sum_3 rfl (by decide) rfl ?_
  refine z_iconst X (0 : Int32) dL_sum_4 (by decide) ?_
  refine z_istore_n X [(3, .int (0 : Int32)), (1, .long (7 : Int64)), (0, .ref (ax 0))] dL_sum_5 rfl (by decide) rfl ?_
  refine z_sub (lv' := [(0, .ref (ax 0)), (1, .long (7 : Int64)), (3, .int (0 : Int32))]) [2, 1, 0] rfl ?_
  exact H6 12 (7 : Int64) (0 : Int32) x _ _ (by first | exact Nat.le_of_ble_eq_true rfl | omega) (by first | exact Nat.le_of_ble_eq_true rfl | omega) h
