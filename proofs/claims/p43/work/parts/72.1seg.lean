/-! ===== the law's texts ===== -/
theorem bk_front {X X' Y wc wc' : va_W} (h1 : bkc X wc) (h2 : bk X X' wc wc') : bkc (X ++ Y) wc ∧ bk (X ++ Y) (X' ++ Y) wc wc' := by
  obtain ⟨g1, g2⟩ := bk_E (E := Y) h1 h2
  have tP : ∀ {D : va_G} {H : Heap} {U V : va_W}, va_P D vwCl (U ++ V) H → va_P D vwCl (V ++ U) H := fun h => vP_mem.mpr fun q hq => vP_mem.mp h q (List.perm_append_comm.mem_iff.mp hq)
  have tD : ∀ {A : Nat → Prop} {U V : va_W}, va_D A (U ++ V) → va_D A (V ++ U) := fun h => vD_nd.mpr ⟨(List.perm_append_comm.map Prod.fst).nodup_iff.mp (vD_nd.mp h).1, fun q hq => (vD_nd.mp h).2 q (List.perm_append_comm.mem_iff.mp hq)⟩
  refine ⟨fun D A H hP hD => g1 D A H (tP hP) (tD hD), fun D A H H1 hP hD hk hP1 => ?_⟩
  obtain ⟨p1, p2⟩ := g2 D A H H1 (tP hP) (tD hD) hk hP1
  exact ⟨tP p1, tD p2⟩
theorem pm_O {O Y : va_W} : bkc (O ++ Y) O ∧ bk (O ++ Y) (O ++ Y) O O := bk_perm (List.Perm.refl _) (List.Perm.refl _) rfl
theorem inb_lt {i : Int32} {n : Nat} (h : inb i n) : i.toNatClampNeg < n := by
  have := vp_of_inb h
  exact Nat.not_le.mp fun q => this (Or.inr q)
theorem L_spells_cong {n : Nat} {f f2 : Nat → Int32} {p1 : Int32} {x : XVal} (h : ∀ i, i < n → f i = f2 i) : ∀ (N : Nat) (a b : Int32), L_L_spells_17 n f p1 x N a b = L_L_spells_17 n f2 p1 x N a b
  | 0, _, _ => rfl
  | N + 1, a, b => by
    have e : L_L_spells_17 n f p1 x N = L_L_spells_17 n f2 p1 x N := funext fun a => funext fun b => L_spells_cong h N a b
    unfold L_L_spells_17 J_L_spells_50 J_L_spells_57
    rw [e]
    by_cases hi : inb b n
    · rw [h _ (inb_lt hi)]
    · have eg : ∀ (F : Option Int32), grd (inb b n) F = none := fun F => by unfold grd; exact if_neg hi
      simp only [eg]
theorem F_spells_cong {n : Nat} {f f2 : Nat → Int32} {p1 : Int32} {x : XVal} (h : ∀ i, i < n → f i = f2 i) : F_L_spells n f p1 x = F_L_spells n f2 p1 x := by
  have e : L_L_spells_17 n f p1 x = L_L_spells_17 n f2 p1 x := funext fun N => funext fun a => funext fun b => L_spells_cong h N a b
  unfold F_L_spells J_L_spells_13
  rw [e]
theorem L_run_cong {n : Nat} {f f2 : Nat → Int32} (h : ∀ i, i < n → f i = f2 i) : ∀ (N : Nat) (b : Int32) (x : XVal), L_L_run_2 n f N b x = L_L_run_2 n f2 N b x
  | 0, _, _ => rfl
  | N + 1, b, x => by
    have e : L_L_run_2 n f N = L_L_run_2 n f2 N := funext fun b => funext fun x => L_run_cong h N b x
    unfold L_L_run_2
    rw [e]
    by_cases hi : inb b n
    · rw [h _ (inb_lt hi)]
    · have eg : ∀ (F : Option (Int32 × XVal)), grd (inb b n) F = none := fun F => by unfold grd; exact if_neg hi
      simp only [eg]
theorem F_run_cong {n : Nat} {f f2 : Nat → Int32} {x : XVal} (h : ∀ i, i < n → f i = f2 i) : F_L_run n f x = F_L_run n f2 x := by
  unfold F_L_run
  rw [L_run_cong h]
/-- a number of one or two signs -/
abbrev isN (v : Int32) (n : Nat) : Prop := v = nI n ∧ n < 100
def tB (i : Nat) : List Int32 := tByt.getD i []
def tFn (T : List Int32) : Nat → Int32 := fun j => T.getD j 0
theorem mx_nI {n : Nat} (h : n < 1000000) : (if (0 : Int32) < (9 : Int32) - nI n then (9 : Int32) - nI n else (0 : Int32)) = nI (9 - n) := by
  by_cases h9 : n ≤ 9
  · have : ∀ n, n ≤ 9 → (if (0 : Int32) < (9 : Int32) - nI n then (9 : Int32) - nI n else (0 : Int32)) = nI (9 - n) := by decide +kernel
    exact this n h9
  · have e : ((9 : Int32) - nI n).toInt = (9 : Int) - n := pk_sub_toInt (a := 9) (by omega) (by omega)
    rw [if_neg (by rw [Int32.lt_iff_toInt_lt, e, Int32.toInt_zero]; omega), show 9 - n = 0 by omega]
    rfl
theorem dL_lines_0 : decode cL_lines 0 = .ok (.aload_n 0, 1) := by decide +kernel
theorem dL_lines_1 : decode cL_lines 1 = .ok (.iconst 2, 1) := by decide +kernel
theorem dL_lines_2 : decode cL_lines 2 = .ok (.invokevirtual 162, 3) := by decide +kernel
theorem dL_lines_5 : decode cL_lines 5 = .ok (.istore_n 2, 1) := by decide +kernel
theorem dL_lines_6 : decode cL_lines 6 = .ok (.iconst 0, 1) := by decide +kernel
theorem dL_lines_7 : decode cL_lines 7 = .ok (.istore_n 3, 1) := by decide +kernel
theorem dL_lines_8 : decode cL_lines 8 = .ok (.iload_n 3, 1) := by decide +kernel
theorem dL_lines_9 : decode cL_lines 9 = .ok (.bipush 8, 2) := by decide +kernel
theorem dL_lines_11 : decode cL_lines 11 = .ok (.if_icmp .ge 278, 3) := by decide +kernel
theorem dL_lines_14 : decode cL_lines 14 = .ok (.aload_n 0, 1) := by decide +kernel
theorem dL_lines_15 : decode cL_lines 15 = .ok (.iload_n 3, 1) := by decide +kernel
theorem dL_lines_16 : decode cL_lines 16 = .ok (.invokestatic 276, 3) := by decide +kernel
theorem dL_lines_19 : decode cL_lines 19 = .ok (.bipush 8, 2) := by decide +kernel
theorem dL_lines_21 : decode cL_lines 21 = .ok (.if_icmp .eq 5, 3) := by decide +kernel
theorem dL_lines_24 : decode cL_lines 24 = .ok (.iconst 0, 1) := by decide +kernel
theorem dL_lines_25 : decode cL_lines 25 = .ok (.ireturn, 1) := by decide +kernel
theorem dL_lines_26 : decode cL_lines 26 = .ok (.iconst 0, 1) := by decide +kernel
theorem dL_lines_27 : decode cL_lines 27 = .ok (.istore 4, 2) := by decide +kernel
theorem dL_lines_29 : decode cL_lines 29 = .ok (.iload 4, 2) := by decide +kernel
theorem dL_lines_31 : decode cL_lines 31 = .ok (.bipush 8, 2) := by decide +kernel
theorem dL_lines_33 : decode cL_lines 33 = .ok (.if_icmp .ge 250, 3) := by decide +kernel
theorem dL_lines_36 : decode cL_lines 36 = .ok (.bipush 8, 2) := by decide +kernel
theorem dL_lines_38 : decode cL_lines 38 = .ok (.iload_n 3, 1) := by decide +kernel
theorem dL_lines_39 : decode cL_lines 39 = .ok (.imul, 1) := by decide +kernel
theorem dL_lines_40 : decode cL_lines 40 = .ok (.iload 4, 2) := by decide +kernel
theorem dL_lines_42 : decode cL_lines 42 = .ok (.iadd, 1) := by decide +kernel
theorem dL_lines_43 : decode cL_lines 43 = .ok (.istore 5, 2) := by decide +kernel
theorem dL_lines_45 : decode cL_lines 45 = .ok (.iconst (-1), 1) := by decide +kernel
theorem dL_lines_46 : decode cL_lines 46 = .ok (.istore 6, 2) := by decide +kernel
theorem dL_lines_48 : decode cL_lines 48 = .ok (.iconst 0, 1) := by decide +kernel
theorem dL_lines_49 : decode cL_lines 49 = .ok (.istore 7, 2) := by decide +kernel
theorem dL_lines_51 : decode cL_lines 51 = .ok (.iconst 0, 1) := by decide +kernel
theorem dL_lines_52 : decode cL_lines 52 = .ok (.istore 8, 2) := by decide +kernel
theorem dL_lines_54 : decode cL_lines 54 = .ok (.iload 8, 2) := by decide +kernel
theorem dL_lines_56 : decode cL_lines 56 = .ok (.iload_n 2, 1) := by decide +kernel
theorem dL_lines_57 : decode cL_lines 57 = .ok (.if_icmp .ge 30, 3) := by decide +kernel
theorem dL_lines_60 : decode cL_lines 60 = .ok (.aload_n 0, 1) := by decide +kernel
theorem dL_lines_61 : decode cL_lines 61 = .ok (.iload 8, 2) := by decide +kernel
theorem dL_lines_63 : decode cL_lines 63 = .ok (.iconst 0, 1) := by decide +kernel
theorem dL_lines_64 : decode cL_lines 64 = .ok (.invokestatic 172, 3) := by decide +kernel
theorem dL_lines_67 : decode cL_lines 67 = .ok (.iload 5, 2) := by decide +kernel
theorem dL_lines_69 : decode cL_lines 69 = .ok (.if_icmp .ne 8, 3) := by decide +kernel
theorem dL_lines_72 : decode cL_lines 72 = .ok (.iload 8, 2) := by decide +kernel
theorem dL_lines_74 : decode cL_lines 74 = .ok (.goto 5, 3) := by decide +kernel
theorem dL_lines_77 : decode cL_lines 77 = .ok (.iload 6, 2) := by decide +kernel
theorem dL_lines_79 : decode cL_lines 79 = .ok (.istore 6, 2) := by decide +kernel
theorem dL_lines_81 : decode cL_lines 81 = .ok (.iinc 8 1, 3) := by decide +kernel
theorem dL_lines_84 : decode cL_lines 84 = .ok (.goto (-30), 3) := by decide +kernel
theorem dL_lines_87 : decode cL_lines 87 = .ok (.iconst 0, 1) := by decide +kernel
theorem dL_lines_88 : decode cL_lines 88 = .ok (.istore 8, 2) := by decide +kernel
theorem dL_lines_90 : decode cL_lines 90 = .ok (.iload 8, 2) := by decide +kernel
theorem dL_lines_92 : decode cL_lines 92 = .ok (.aload_n 0, 1) := by decide +kernel
theorem dL_lines_93 : decode cL_lines 93 = .ok (.iconst 4, 1) := by decide +kernel
theorem dL_lines_94 : decode cL_lines 94 = .ok (.invokevirtual 162, 3) := by decide +kernel
theorem dL_lines_97 : decode cL_lines 97 = .ok (.if_icmp .ge 33, 3) := by decide +kernel
theorem dL_lines_100 : decode cL_lines 100 = .ok (.iload 7, 2) := by decide +kernel
theorem dL_lines_102 : decode cL_lines 102 = .ok (.ifCond .ne 15, 3) := by decide +kernel
theorem dL_lines_105 : decode cL_lines 105 = .ok (.aload_n 0, 1) := by decide +kernel
theorem dL_lines_106 : decode cL_lines 106 = .ok (.iload 8, 2) := by decide +kernel
theorem dL_lines_108 : decode cL_lines 108 = .ok (.iconst 0, 1) := by decide +kernel
theorem dL_lines_109 : decode cL_lines 109 = .ok (.invokestatic 244, 3) := by decide +kernel
theorem dL_lines_112 : decode cL_lines 112 = .ok (.iload 5, 2) := by decide +kernel
theorem dL_lines_114 : decode cL_lines 114 = .ok (.if_icmp .ne 7, 3) := by decide +kernel
theorem dL_lines_117 : decode cL_lines 117 = .ok (.iconst 1, 1) := by decide +kernel
theorem dL_lines_118 : decode cL_lines 118 = .ok (.goto 4, 3) := by decide +kernel
theorem dL_lines_121 : decode cL_lines 121 = .ok (.iconst 0, 1) := by decide +kernel
theorem dL_lines_122 : decode cL_lines 122 = .ok (.istore 7, 2) := by decide +kernel
theorem dL_lines_124 : decode cL_lines 124 = .ok (.iinc 8 1, 3) := by decide +kernel
theorem dL_lines_127 : decode cL_lines 127 = .ok (.goto (-37), 3) := by decide +kernel
theorem dL_lines_130 : decode cL_lines 130 = .ok (.aload_n 0, 1) := by decide +kernel
theorem dL_lines_131 : decode cL_lines 131 = .ok (.iload 4, 2) := by decide +kernel
theorem dL_lines_133 : decode cL_lines 133 = .ok (.invokestatic 274, 3) := by decide +kernel
theorem dL_lines_136 : decode cL_lines 136 = .ok (.istore 8, 2) := by decide +kernel
theorem dL_lines_138 : decode cL_lines 138 = .ok (.iload 6, 2) := by decide +kernel
theorem dL_lines_140 : decode cL_lines 140 = .ok (.ifCond .lt 21, 3) := by decide +kernel
theorem dL_lines_143 : decode cL_lines 143 = .ok (.iload 8, 2) := by decide +kernel
theorem dL_lines_145 : decode cL_lines 145 = .ok (.bipush 48, 2) := by decide +kernel
theorem dL_lines_147 : decode cL_lines 147 = .ok (.iload 6, 2) := by decide +kernel
theorem dL_lines_149 : decode cL_lines 149 = .ok (.iadd, 1) := by decide +kernel
theorem dL_lines_150 : decode cL_lines 150 = .ok (.if_icmp .ne 7, 3) := by decide +kernel
theorem dL_lines_153 : decode cL_lines 153 = .ok (.iconst 1, 1) := by decide +kernel
theorem dL_lines_154 : decode cL_lines 154 = .ok (.goto 114, 3) := by decide +kernel
theorem dL_lines_157 : decode cL_lines 157 = .ok (.iconst 0, 1) := by decide +kernel
theorem dL_lines_158 : decode cL_lines 158 = .ok (.goto 110, 3) := by decide +kernel
theorem dL_lines_161 : decode cL_lines 161 = .ok (.aload_n 1, 1) := by decide +kernel
theorem dL_lines_162 : decode cL_lines 162 = .ok (.iload 5, 2) := by decide +kernel
theorem dL_lines_164 : decode cL_lines 164 = .ok (.baload, 1) := by decide +kernel
theorem dL_lines_165 : decode cL_lines 165 = .ok (.ifCond .eq 18, 3) := by decide +kernel
theorem dL_lines_168 : decode cL_lines 168 = .ok (.iload 8, 2) := by decide +kernel
theorem dL_lines_170 : decode cL_lines 170 = .ok (.bipush 35, 2) := by decide +kernel
theorem dL_lines_172 : decode cL_lines 172 = .ok (.if_icmp .ne 7, 3) := by decide +kernel
theorem dL_lines_175 : decode cL_lines 175 = .ok (.iconst 1, 1) := by decide +kernel
theorem dL_lines_176 : decode cL_lines 176 = .ok (.goto 92, 3) := by decide +kernel
theorem dL_lines_179 : decode cL_lines 179 = .ok (.iconst 0, 1) := by decide +kernel
theorem dL_lines_180 : decode cL_lines 180 = .ok (.goto 88, 3) := by decide +kernel
theorem dL_lines_183 : decode cL_lines 183 = .ok (.iload 7, 2) := by decide +kernel
theorem dL_lines_185 : decode cL_lines 185 = .ok (.ifCond .eq 18, 3) := by decide +kernel
theorem dL_lines_188 : decode cL_lines 188 = .ok (.iload 8, 2) := by decide +kernel
theorem dL_lines_190 : decode cL_lines 190 = .ok (.bipush 111, 2) := by decide +kernel
theorem dL_lines_192 : decode cL_lines 192 = .ok (.if_icmp .ne 7, 3) := by decide +kernel
theorem dL_lines_195 : decode cL_lines 195 = .ok (.iconst 1, 1) := by decide +kernel
theorem dL_lines_196 : decode cL_lines 196 = .ok (.goto 72, 3) := by decide +kernel
theorem dL_lines_199 : decode cL_lines 199 = .ok (.iconst 0, 1) := by decide +kernel
theorem dL_lines_200 : decode cL_lines 200 = .ok (.goto 68, 3) := by decide +kernel
theorem dL_lines_203 : decode cL_lines 203 = .ok (.iload_n 3, 1) := by decide +kernel
theorem dL_lines_204 : decode cL_lines 204 = .ok (.iconst 3, 1) := by decide +kernel
theorem dL_lines_205 : decode cL_lines 205 = .ok (.if_icmp .ge 24, 3) := by decide +kernel
theorem dL_lines_208 : decode cL_lines 208 = .ok (.iload 4, 2) := by decide +kernel
theorem dL_lines_210 : decode cL_lines 210 = .ok (.iconst 4, 1) := by decide +kernel
theorem dL_lines_211 : decode cL_lines 211 = .ok (.if_icmp .ne 18, 3) := by decide +kernel
theorem dL_lines_214 : decode cL_lines 214 = .ok (.iload 8, 2) := by decide +kernel
theorem dL_lines_216 : decode cL_lines 216 = .ok (.bipush 95, 2) := by decide +kernel
theorem dL_lines_218 : decode cL_lines 218 = .ok (.if_icmp .ne 7, 3) := by decide +kernel
theorem dL_lines_221 : decode cL_lines 221 = .ok (.iconst 1, 1) := by decide +kernel
theorem dL_lines_222 : decode cL_lines 222 = .ok (.goto 46, 3) := by decide +kernel
theorem dL_lines_225 : decode cL_lines 225 = .ok (.iconst 0, 1) := by decide +kernel
theorem dL_lines_226 : decode cL_lines 226 = .ok (.goto 42, 3) := by decide +kernel
theorem dL_lines_229 : decode cL_lines 229 = .ok (.iload_n 3, 1) := by decide +kernel
theorem dL_lines_230 : decode cL_lines 230 = .ok (.iconst 2, 1) := by decide +kernel
theorem dL_lines_231 : decode cL_lines 231 = .ok (.if_icmp .le 18, 3) := by decide +kernel
theorem dL_lines_234 : decode cL_lines 234 = .ok (.iload 8, 2) := by decide +kernel
theorem dL_lines_236 : decode cL_lines 236 = .ok (.bipush 46, 2) := by decide +kernel
theorem dL_lines_238 : decode cL_lines 238 = .ok (.if_icmp .ne 7, 3) := by decide +kernel
theorem dL_lines_241 : decode cL_lines 241 = .ok (.iconst 1, 1) := by decide +kernel
theorem dL_lines_242 : decode cL_lines 242 = .ok (.goto 26, 3) := by decide +kernel
theorem dL_lines_245 : decode cL_lines 245 = .ok (.iconst 0, 1) := by decide +kernel
theorem dL_lines_246 : decode cL_lines 246 = .ok (.goto 22, 3) := by decide +kernel
theorem dL_lines_249 : decode cL_lines 249 = .ok (.iload 8, 2) := by decide +kernel
theorem dL_lines_251 : decode cL_lines 251 = .ok (.bipush 95, 2) := by decide +kernel
theorem dL_lines_253 : decode cL_lines 253 = .ok (.if_icmp .eq 10, 3) := by decide +kernel
theorem dL_lines_256 : decode cL_lines 256 = .ok (.iload 8, 2) := by decide +kernel
theorem dL_lines_258 : decode cL_lines 258 = .ok (.bipush 46, 2) := by decide +kernel
theorem dL_lines_260 : decode cL_lines 260 = .ok (.if_icmp .ne 7, 3) := by decide +kernel
theorem dL_lines_263 : decode cL_lines 263 = .ok (.iconst 1, 1) := by decide +kernel
theorem dL_lines_264 : decode cL_lines 264 = .ok (.goto 4, 3) := by decide +kernel
theorem dL_lines_267 : decode cL_lines 267 = .ok (.iconst 0, 1) := by decide +kernel
theorem dL_lines_268 : decode cL_lines 268 = .ok (.istore 9, 2) := by decide +kernel
theorem dL_lines_270 : decode cL_lines 270 = .ok (.iload 9, 2) := by decide +kernel
theorem dL_lines_272 : decode cL_lines 272 = .ok (.ifCond .ne 5, 3) := by decide +kernel
theorem dL_lines_275 : decode cL_lines 275 = .ok (.iconst 0, 1) := by decide +kernel
theorem dL_lines_276 : decode cL_lines 276 = .ok (.ireturn, 1) := by decide +kernel
theorem dL_lines_277 : decode cL_lines 277 = .ok (.iinc 4 1, 3) := by decide +kernel
theorem dL_lines_280 : decode cL_lines 280 = .ok (.goto (-251), 3) := by decide +kernel
theorem dL_lines_283 : decode cL_lines 283 = .ok (.iinc 3 1, 3) := by decide +kernel
theorem dL_lines_286 : decode cL_lines 286 = .ok (.goto (-278), 3) := by decide +kernel
theorem dL_lines_289 : decode cL_lines 289 = .ok (.iconst 0, 1) := by decide +kernel
theorem dL_lines_290 : decode cL_lines 290 = .ok (.istore_n 3, 1) := by decide +kernel
theorem dL_lines_291 : decode cL_lines 291 = .ok (.iload_n 3, 1) := by decide +kernel
theorem dL_lines_292 : decode cL_lines 292 = .ok (.iload_n 2, 1) := by decide +kernel
theorem dL_lines_293 : decode cL_lines 293 = .ok (.if_icmp .ge 162, 3) := by decide +kernel
theorem dL_lines_296 : decode cL_lines 296 = .ok (.new 278, 3) := by decide +kernel
theorem dL_lines_299 : decode cL_lines 299 = .ok (.dup, 1) := by decide +kernel
theorem dL_lines_300 : decode cL_lines 300 = .ok (.invokespecial 280, 3) := by decide +kernel
theorem dL_lines_303 : decode cL_lines 303 = .ok (.iload_n 3, 1) := by decide +kernel
theorem dL_lines_304 : decode cL_lines 304 = .ok (.invokevirtual 281, 3) := by decide +kernel
theorem dL_lines_307 : decode cL_lines 307 = .ok (.ldc_w 284, 3) := by decide +kernel
theorem dL_lines_310 : decode cL_lines 310 = .ok (.invokevirtual 286, 3) := by decide +kernel
theorem dL_lines_313 : decode cL_lines 313 = .ok (.aload_n 0, 1) := by decide +kernel
theorem dL_lines_314 : decode cL_lines 314 = .ok (.iload_n 3, 1) := by decide +kernel
theorem dL_lines_315 : decode cL_lines 315 = .ok (.iconst 0, 1) := by decide +kernel
theorem dL_lines_316 : decode cL_lines 316 = .ok (.invokestatic 172, 3) := by decide +kernel
theorem dL_lines_319 : decode cL_lines 319 = .ok (.invokevirtual 281, 3) := by decide +kernel
theorem dL_lines_322 : decode cL_lines 322 = .ok (.aload_n 0, 1) := by decide +kernel
theorem dL_lines_323 : decode cL_lines 323 = .ok (.iload_n 3, 1) := by decide +kernel
theorem dL_lines_324 : decode cL_lines 324 = .ok (.bipush 7, 2) := by decide +kernel
theorem dL_lines_326 : decode cL_lines 326 = .ok (.invokestatic 172, 3) := by decide +kernel
theorem dL_lines_329 : decode cL_lines 329 = .ok (.ifCond .le 46, 3) := by decide +kernel
theorem dL_lines_332 : decode cL_lines 332 = .ok (.new 278, 3) := by decide +kernel
theorem dL_lines_335 : decode cL_lines 335 = .ok (.dup, 1) := by decide +kernel
theorem dL_lines_336 : decode cL_lines 336 = .ok (.invokespecial 280, 3) := by decide +kernel
theorem dL_lines_339 : decode cL_lines 339 = .ok (.ldc_w 289, 3) := by decide +kernel
theorem dL_lines_342 : decode cL_lines 342 = .ok (.invokevirtual 286, 3) := by decide +kernel
theorem dL_lines_345 : decode cL_lines 345 = .ok (.aload_n 0, 1) := by decide +kernel
theorem dL_lines_346 : decode cL_lines 346 = .ok (.iload_n 3, 1) := by decide +kernel
theorem dL_lines_347 : decode cL_lines 347 = .ok (.iconst 1, 1) := by decide +kernel
theorem dL_lines_348 : decode cL_lines 348 = .ok (.invokestatic 172, 3) := by decide +kernel
theorem dL_lines_351 : decode cL_lines 351 = .ok (.invokevirtual 281, 3) := by decide +kernel
theorem dL_lines_354 : decode cL_lines 354 = .ok (.ldc_w 291, 3) := by decide +kernel
theorem dL_lines_357 : decode cL_lines 357 = .ok (.invokevirtual 286, 3) := by decide +kernel
theorem dL_lines_360 : decode cL_lines 360 = .ok (.aload_n 0, 1) := by decide +kernel
theorem dL_lines_361 : decode cL_lines 361 = .ok (.iload_n 3, 1) := by decide +kernel
theorem dL_lines_362 : decode cL_lines 362 = .ok (.iconst 2, 1) := by decide +kernel
theorem dL_lines_363 : decode cL_lines 363 = .ok (.invokestatic 172, 3) := by decide +kernel
theorem dL_lines_366 : decode cL_lines 366 = .ok (.invokevirtual 281, 3) := by decide +kernel
theorem dL_lines_369 : decode cL_lines 369 = .ok (.invokevirtual 293, 3) := by decide +kernel
theorem dL_lines_372 : decode cL_lines 372 = .ok (.goto 6, 3) := by decide +kernel
theorem dL_lines_375 : decode cL_lines 375 = .ok (.ldc_w 297, 3) := by decide +kernel
theorem dL_lines_378 : decode cL_lines 378 = .ok (.invokevirtual 286, 3) := by decide +kernel
theorem dL_lines_381 : decode cL_lines 381 = .ok (.aload_n 0, 1) := by decide +kernel
theorem dL_lines_382 : decode cL_lines 382 = .ok (.iload_n 3, 1) := by decide +kernel
theorem dL_lines_383 : decode cL_lines 383 = .ok (.aload_n 0, 1) := by decide +kernel
theorem dL_lines_384 : decode cL_lines 384 = .ok (.iconst 0, 1) := by decide +kernel
theorem dL_lines_385 : decode cL_lines 385 = .ok (.invokevirtual 162, 3) := by decide +kernel
theorem dL_lines_388 : decode cL_lines 388 = .ok (.invokestatic 180, 3) := by decide +kernel
theorem dL_lines_391 : decode cL_lines 391 = .ok (.ifCond .eq 9, 3) := by decide +kernel
theorem dL_lines_394 : decode cL_lines 394 = .ok (.ldc_w 299, 3) := by decide +kernel
theorem dL_lines_397 : decode cL_lines 397 = .ok (.goto 6, 3) := by decide +kernel
theorem dL_lines_400 : decode cL_lines 400 = .ok (.ldc_w 297, 3) := by decide +kernel
theorem dL_lines_403 : decode cL_lines 403 = .ok (.invokevirtual 286, 3) := by decide +kernel
theorem dL_lines_406 : decode cL_lines 406 = .ok (.ldc_w 301, 3) := by decide +kernel
theorem dL_lines_409 : decode cL_lines 409 = .ok (.iconst 0, 1) := by decide +kernel
theorem dL_lines_410 : decode cL_lines 410 = .ok (.bipush 9, 2) := by decide +kernel
theorem dL_lines_412 : decode cL_lines 412 = .ok (.aload_n 0, 1) := by decide +kernel
theorem dL_lines_413 : decode cL_lines 413 = .ok (.iload_n 3, 1) := by decide +kernel
theorem dL_lines_414 : decode cL_lines 414 = .ok (.iconst 4, 1) := by decide +kernel
theorem dL_lines_415 : decode cL_lines 415 = .ok (.invokestatic 172, 3) := by decide +kernel
theorem dL_lines_418 : decode cL_lines 418 = .ok (.isub, 1) := by decide +kernel
theorem dL_lines_419 : decode cL_lines 419 = .ok (.invokestatic 210, 3) := by decide +kernel
theorem dL_lines_422 : decode cL_lines 422 = .ok (.invokevirtual 303, 3) := by decide +kernel
theorem dL_lines_425 : decode cL_lines 425 = .ok (.invokevirtual 286, 3) := by decide +kernel
theorem dL_lines_428 : decode cL_lines 428 = .ok (.invokevirtual 293, 3) := by decide +kernel
theorem dL_lines_431 : decode cL_lines 431 = .ok (.astore 4, 2) := by decide +kernel
theorem dL_lines_433 : decode cL_lines 433 = .ok (.aload_n 0, 1) := by decide +kernel
theorem dL_lines_434 : decode cL_lines 434 = .ok (.aload_n 0, 1) := by decide +kernel
theorem dL_lines_435 : decode cL_lines 435 = .ok (.iload_n 3, 1) := by decide +kernel
theorem dL_lines_436 : decode cL_lines 436 = .ok (.invokestatic 307, 3) := by decide +kernel
theorem dL_lines_439 : decode cL_lines 439 = .ok (.aload 4, 2) := by decide +kernel
theorem dL_lines_441 : decode cL_lines 441 = .ok (.invokestatic 309, 3) := by decide +kernel
theorem dL_lines_444 : decode cL_lines 444 = .ok (.ifCond .ne 5, 3) := by decide +kernel
theorem dL_lines_447 : decode cL_lines 447 = .ok (.iconst 0, 1) := by decide +kernel
theorem dL_lines_448 : decode cL_lines 448 = .ok (.ireturn, 1) := by decide +kernel
theorem dL_lines_449 : decode cL_lines 449 = .ok (.iinc 3 1, 3) := by decide +kernel
theorem dL_lines_452 : decode cL_lines 452 = .ok (.goto (-161), 3) := by decide +kernel
theorem dL_lines_455 : decode cL_lines 455 = .ok (.aload_n 0, 1) := by decide +kernel
theorem dL_lines_456 : decode cL_lines 456 = .ok (.bipush 8, 2) := by decide +kernel
theorem dL_lines_458 : decode cL_lines 458 = .ok (.invokestatic 276, 3) := by decide +kernel
theorem dL_lines_461 : decode cL_lines 461 = .ok (.bipush (-12), 2) := by decide +kernel
theorem dL_lines_463 : decode cL_lines 463 = .ok (.if_icmp .ne 36, 3) := by decide +kernel
theorem dL_lines_466 : decode cL_lines 466 = .ok (.aload_n 0, 1) := by decide +kernel
theorem dL_lines_467 : decode cL_lines 467 = .ok (.iconst (-1), 1) := by decide +kernel
theorem dL_lines_468 : decode cL_lines 468 = .ok (.invokestatic 276, 3) := by decide +kernel
theorem dL_lines_471 : decode cL_lines 471 = .ok (.bipush (-12), 2) := by decide +kernel
theorem dL_lines_473 : decode cL_lines 473 = .ok (.if_icmp .ne 26, 3) := by decide +kernel
theorem dL_lines_476 : decode cL_lines 476 = .ok (.aload_n 0, 1) := by decide +kernel
theorem dL_lines_477 : decode cL_lines 477 = .ok (.iload_n 2, 1) := by decide +kernel
theorem dL_lines_478 : decode cL_lines 478 = .ok (.invokestatic 307, 3) := by decide +kernel
theorem dL_lines_481 : decode cL_lines 481 = .ok (.bipush (-11), 2) := by decide +kernel
theorem dL_lines_483 : decode cL_lines 483 = .ok (.if_icmp .ne 16, 3) := by decide +kernel
theorem dL_lines_486 : decode cL_lines 486 = .ok (.aload_n 0, 1) := by decide +kernel
theorem dL_lines_487 : decode cL_lines 487 = .ok (.iconst 3, 1) := by decide +kernel
theorem dL_lines_488 : decode cL_lines 488 = .ok (.invokevirtual 162, 3) := by decide +kernel
theorem dL_lines_491 : decode cL_lines 491 = .ok (.iconst 3, 1) := by decide +kernel
theorem dL_lines_492 : decode cL_lines 492 = .ok (.if_icmp .ne 7, 3) := by decide +kernel
theorem dL_lines_495 : decode cL_lines 495 = .ok (.iconst 1, 1) := by decide +kernel
theorem dL_lines_496 : decode cL_lines 496 = .ok (.goto 4, 3) := by decide +kernel
theorem dL_lines_499 : decode cL_lines 499 = .ok (.iconst 0, 1) := by decide +kernel
theorem dL_lines_500 : decode cL_lines 500 = .ok (.ireturn, 1) := by decide +kernel
theorem dL_undone_0 : decode cL_undone 0 = .ok (.bipush 9, 2) := by decide +kernel
theorem dL_undone_2 : decode cL_undone 2 = .ok (.newarray .long, 2) := by decide +kernel
theorem dL_undone_4 : decode cL_undone 4 = .ok (.astore_n 2, 1) := by decide +kernel
theorem dL_undone_5 : decode cL_undone 5 = .ok (.iconst 0, 1) := by decide +kernel
theorem dL_undone_6 : decode cL_undone 6 = .ok (.istore_n 3, 1) := by decide +kernel
theorem dL_undone_7 : decode cL_undone 7 = .ok (.iconst 0, 1) := by decide +kernel
theorem dL_undone_8 : decode cL_undone 8 = .ok (.istore 4, 2) := by decide +kernel
theorem dL_undone_10 : decode cL_undone 10 = .ok (.iload 4, 2) := by decide +kernel
theorem dL_undone_12 : decode cL_undone 12 = .ok (.bipush 7, 2) := by decide +kernel
theorem dL_undone_14 : decode cL_undone 14 = .ok (.if_icmp .ge 402, 3) := by decide +kernel
theorem dL_undone_17 : decode cL_undone 17 = .ok (.aload_n 0, 1) := by decide +kernel
theorem dL_undone_18 : decode cL_undone 18 = .ok (.bipush 30, 2) := by decide +kernel
theorem dL_undone_20 : decode cL_undone 20 = .ok (.iload 4, 2) := by decide +kernel
theorem dL_undone_22 : decode cL_undone 22 = .ok (.iadd, 1) := by decide +kernel
theorem dL_undone_23 : decode cL_undone 23 = .ok (.invokestatic 145, 3) := by decide +kernel
theorem dL_undone_26 : decode cL_undone 26 = .ok (.iconst 1, 1) := by decide +kernel
theorem dL_undone_27 : decode cL_undone 27 = .ok (.iushr, 1) := by decide +kernel
theorem dL_undone_28 : decode cL_undone 28 = .ok (.istore 5, 2) := by decide +kernel
theorem dL_undone_30 : decode cL_undone 30 = .ok (.iload 5, 2) := by decide +kernel
theorem dL_undone_32 : decode cL_undone 32 = .ok (.iconst 4, 1) := by decide +kernel
theorem dL_undone_33 : decode cL_undone 33 = .ok (.iushr, 1) := by decide +kernel
theorem dL_undone_34 : decode cL_undone 34 = .ok (.istore 6, 2) := by decide +kernel
theorem dL_undone_36 : decode cL_undone 36 = .ok (.aload_n 2, 1) := by decide +kernel
theorem dL_undone_37 : decode cL_undone 37 = .ok (.iload_n 3, 1) := by decide +kernel
theorem dL_undone_38 : decode cL_undone 38 = .ok (.aload_n 1, 1) := by decide +kernel
theorem dL_undone_39 : decode cL_undone 39 = .ok (.invokestatic 325, 3) := by decide +kernel
theorem dL_undone_42 : decode cL_undone 42 = .ok (.lastore, 1) := by decide +kernel
theorem dL_undone_43 : decode cL_undone 43 = .ok (.iload 5, 2) := by decide +kernel
theorem dL_undone_45 : decode cL_undone 45 = .ok (.bipush 11, 2) := by decide +kernel
theorem dL_undone_47 : decode cL_undone 47 = .ok (.irem, 1) := by decide +kernel
theorem dL_undone_48 : decode cL_undone 48 = .ok (.tableswitch 244 0 9 #[56, 86, 100, 114, 143, 156, 170, 197, 211, 224], 56) := by decide +kernel
theorem dL_undone_104 : decode cL_undone 104 = .ok (.aload_n 1, 1) := by decide +kernel
theorem dL_undone_105 : decode cL_undone 105 = .ok (.iload 6, 2) := by decide +kernel
theorem dL_undone_107 : decode cL_undone 107 = .ok (.bipush 66, 2) := by decide +kernel
theorem dL_undone_109 : decode cL_undone 109 = .ok (.irem, 1) := by decide +kernel
theorem dL_undone_110 : decode cL_undone 110 = .ok (.iload 6, 2) := by decide +kernel
theorem dL_undone_112 : decode cL_undone 112 = .ok (.bipush 7, 2) := by decide +kernel
theorem dL_undone_114 : decode cL_undone 114 = .ok (.iushr, 1) := by decide +kernel
theorem dL_undone_115 : decode cL_undone 115 = .ok (.bipush 25, 2) := by decide +kernel
theorem dL_undone_117 : decode cL_undone 117 = .ok (.irem, 1) := by decide +kernel
theorem dL_undone_118 : decode cL_undone 118 = .ok (.iload 6, 2) := by decide +kernel
theorem dL_undone_120 : decode cL_undone 120 = .ok (.bipush 12, 2) := by decide +kernel
theorem dL_undone_122 : decode cL_undone 122 = .ok (.iushr, 1) := by decide +kernel
theorem dL_undone_123 : decode cL_undone 123 = .ok (.bipush 25, 2) := by decide +kernel
theorem dL_undone_125 : decode cL_undone 125 = .ok (.irem, 1) := by decide +kernel
theorem dL_undone_126 : decode cL_undone 126 = .ok (.invokestatic 152, 3) := by decide +kernel
theorem dL_undone_129 : decode cL_undone 129 = .ok (.istore 7, 2) := by decide +kernel
theorem dL_undone_131 : decode cL_undone 131 = .ok (.goto 248, 3) := by decide +kernel
theorem dL_undone_134 : decode cL_undone 134 = .ok (.aload_n 1, 1) := by decide +kernel
theorem dL_undone_135 : decode cL_undone 135 = .ok (.iload 6, 2) := by decide +kernel
theorem dL_undone_137 : decode cL_undone 137 = .ok (.bipush 8, 2) := by decide +kernel
theorem dL_undone_139 : decode cL_undone 139 = .ok (.irem, 1) := by decide +kernel
theorem dL_undone_140 : decode cL_undone 140 = .ok (.invokestatic 329, 3) := by decide +kernel
theorem dL_undone_143 : decode cL_undone 143 = .ok (.istore 7, 2) := by decide +kernel
theorem dL_undone_145 : decode cL_undone 145 = .ok (.goto 234, 3) := by decide +kernel
theorem dL_undone_148 : decode cL_undone 148 = .ok (.aload_n 1, 1) := by decide +kernel
theorem dL_undone_149 : decode cL_undone 149 = .ok (.iload 6, 2) := by decide +kernel
theorem dL_undone_151 : decode cL_undone 151 = .ok (.bipush 66, 2) := by decide +kernel
theorem dL_undone_153 : decode cL_undone 153 = .ok (.irem, 1) := by decide +kernel
theorem dL_undone_154 : decode cL_undone 154 = .ok (.invokestatic 149, 3) := by decide +kernel
theorem dL_undone_157 : decode cL_undone 157 = .ok (.istore 7, 2) := by decide +kernel
theorem dL_undone_159 : decode cL_undone 159 = .ok (.goto 220, 3) := by decide +kernel
theorem dL_undone_162 : decode cL_undone 162 = .ok (.aload_n 1, 1) := by decide +kernel
theorem dL_undone_163 : decode cL_undone 163 = .ok (.iload 6, 2) := by decide +kernel
theorem dL_undone_165 : decode cL_undone 165 = .ok (.bipush 9, 2) := by decide +kernel
theorem dL_undone_167 : decode cL_undone 167 = .ok (.irem, 1) := by decide +kernel
theorem dL_undone_168 : decode cL_undone 168 = .ok (.iload 6, 2) := by decide +kernel
theorem dL_undone_170 : decode cL_undone 170 = .ok (.iconst 4, 1) := by decide +kernel
theorem dL_undone_171 : decode cL_undone 171 = .ok (.iushr, 1) := by decide +kernel
theorem dL_undone_172 : decode cL_undone 172 = .ok (.bipush 8, 2) := by decide +kernel
theorem dL_undone_174 : decode cL_undone 174 = .ok (.irem, 1) := by decide +kernel
theorem dL_undone_175 : decode cL_undone 175 = .ok (.iload 6, 2) := by decide +kernel
theorem dL_undone_177 : decode cL_undone 177 = .ok (.bipush 7, 2) := by decide +kernel
theorem dL_undone_179 : decode cL_undone 179 = .ok (.iushr, 1) := by decide +kernel
theorem dL_undone_180 : decode cL_undone 180 = .ok (.bipush 9, 2) := by decide +kernel
theorem dL_undone_182 : decode cL_undone 182 = .ok (.irem, 1) := by decide +kernel
theorem dL_undone_183 : decode cL_undone 183 = .ok (.invokestatic 158, 3) := by decide +kernel
theorem dL_undone_186 : decode cL_undone 186 = .ok (.istore 7, 2) := by decide +kernel
theorem dL_undone_188 : decode cL_undone 188 = .ok (.goto 191, 3) := by decide +kernel
theorem dL_undone_191 : decode cL_undone 191 = .ok (.aload_n 1, 1) := by decide +kernel
theorem dL_undone_192 : decode cL_undone 192 = .ok (.iload 6, 2) := by decide +kernel
theorem dL_undone_194 : decode cL_undone 194 = .ok (.iconst 5, 1) := by decide +kernel
theorem dL_undone_195 : decode cL_undone 195 = .ok (.irem, 1) := by decide +kernel
theorem dL_undone_196 : decode cL_undone 196 = .ok (.invokestatic 331, 3) := by decide +kernel
theorem dL_undone_199 : decode cL_undone 199 = .ok (.istore 7, 2) := by decide +kernel
theorem dL_undone_201 : decode cL_undone 201 = .ok (.goto 178, 3) := by decide +kernel
theorem dL_undone_204 : decode cL_undone 204 = .ok (.aload_n 1, 1) := by decide +kernel
theorem dL_undone_205 : decode cL_undone 205 = .ok (.iload 6, 2) := by decide +kernel
theorem dL_undone_207 : decode cL_undone 207 = .ok (.bipush 101, 2) := by decide +kernel
theorem dL_undone_209 : decode cL_undone 209 = .ok (.irem, 1) := by decide +kernel
theorem dL_undone_210 : decode cL_undone 210 = .ok (.invokestatic 165, 3) := by decide +kernel
theorem dL_undone_213 : decode cL_undone 213 = .ok (.istore 7, 2) := by decide +kernel
theorem dL_undone_215 : decode cL_undone 215 = .ok (.goto 164, 3) := by decide +kernel
theorem dL_undone_218 : decode cL_undone 218 = .ok (.aload_n 1, 1) := by decide +kernel
theorem dL_undone_219 : decode cL_undone 219 = .ok (.iload 6, 2) := by decide +kernel
theorem dL_undone_221 : decode cL_undone 221 = .ok (.bipush 8, 2) := by decide +kernel
theorem dL_undone_223 : decode cL_undone 223 = .ok (.irem, 1) := by decide +kernel
theorem dL_undone_224 : decode cL_undone 224 = .ok (.iload 6, 2) := by decide +kernel
theorem dL_undone_226 : decode cL_undone 226 = .ok (.iconst 3, 1) := by decide +kernel
theorem dL_undone_227 : decode cL_undone 227 = .ok (.iushr, 1) := by decide +kernel
theorem dL_undone_228 : decode cL_undone 228 = .ok (.iconst 5, 1) := by decide +kernel
theorem dL_undone_229 : decode cL_undone 229 = .ok (.irem, 1) := by decide +kernel
theorem dL_undone_230 : decode cL_undone 230 = .ok (.iload 6, 2) := by decide +kernel
theorem dL_undone_232 : decode cL_undone 232 = .ok (.bipush 6, 2) := by decide +kernel
theorem dL_undone_234 : decode cL_undone 234 = .ok (.iushr, 1) := by decide +kernel
theorem dL_undone_235 : decode cL_undone 235 = .ok (.iconst 5, 1) := by decide +kernel
theorem dL_undone_236 : decode cL_undone 236 = .ok (.irem, 1) := by decide +kernel
theorem dL_undone_237 : decode cL_undone 237 = .ok (.invokestatic 167, 3) := by decide +kernel
theorem dL_undone_240 : decode cL_undone 240 = .ok (.istore 7, 2) := by decide +kernel
theorem dL_undone_242 : decode cL_undone 242 = .ok (.goto 137, 3) := by decide +kernel
theorem dL_undone_245 : decode cL_undone 245 = .ok (.aload_n 1, 1) := by decide +kernel
theorem dL_undone_246 : decode cL_undone 246 = .ok (.iload 6, 2) := by decide +kernel
theorem dL_undone_248 : decode cL_undone 248 = .ok (.bipush 66, 2) := by decide +kernel
theorem dL_undone_250 : decode cL_undone 250 = .ok (.irem, 1) := by decide +kernel
theorem dL_undone_251 : decode cL_undone 251 = .ok (.invokestatic 160, 3) := by decide +kernel
theorem dL_undone_254 : decode cL_undone 254 = .ok (.istore 7, 2) := by decide +kernel
theorem dL_undone_256 : decode cL_undone 256 = .ok (.goto 123, 3) := by decide +kernel
theorem dL_undone_259 : decode cL_undone 259 = .ok (.aload_n 1, 1) := by decide +kernel
theorem dL_undone_260 : decode cL_undone 260 = .ok (.iload 6, 2) := by decide +kernel
theorem dL_undone_262 : decode cL_undone 262 = .ok (.iconst 5, 1) := by decide +kernel
theorem dL_undone_263 : decode cL_undone 263 = .ok (.irem, 1) := by decide +kernel
theorem dL_undone_264 : decode cL_undone 264 = .ok (.invokestatic 333, 3) := by decide +kernel
theorem dL_undone_267 : decode cL_undone 267 = .ok (.istore 7, 2) := by decide +kernel
theorem dL_undone_269 : decode cL_undone 269 = .ok (.goto 110, 3) := by decide +kernel
theorem dL_undone_272 : decode cL_undone 272 = .ok (.aload_n 1, 1) := by decide +kernel
theorem dL_undone_273 : decode cL_undone 273 = .ok (.iload 6, 2) := by decide +kernel
theorem dL_undone_275 : decode cL_undone 275 = .ok (.iconst 4, 1) := by decide +kernel
theorem dL_undone_276 : decode cL_undone 276 = .ok (.irem, 1) := by decide +kernel
theorem dL_undone_277 : decode cL_undone 277 = .ok (.iload 6, 2) := by decide +kernel
theorem dL_undone_279 : decode cL_undone 279 = .ok (.iconst 2, 1) := by decide +kernel
theorem dL_undone_280 : decode cL_undone 280 = .ok (.iushr, 1) := by decide +kernel
theorem dL_undone_281 : decode cL_undone 281 = .ok (.bipush 17, 2) := by decide +kernel
theorem dL_undone_283 : decode cL_undone 283 = .ok (.irem, 1) := by decide +kernel
theorem dL_undone_284 : decode cL_undone 284 = .ok (.invokestatic 169, 3) := by decide +kernel
theorem dL_undone_287 : decode cL_undone 287 = .ok (.istore 7, 2) := by decide +kernel
theorem dL_undone_289 : decode cL_undone 289 = .ok (.goto 90, 3) := by decide +kernel
theorem dL_undone_292 : decode cL_undone 292 = .ok (.aload_n 1, 1) := by decide +kernel
theorem dL_undone_293 : decode cL_undone 293 = .ok (.new 278, 3) := by decide +kernel
theorem dL_undone_296 : decode cL_undone 296 = .ok (.dup, 1) := by decide +kernel
theorem dL_undone_297 : decode cL_undone 297 = .ok (.invokespecial 280, 3) := by decide +kernel
theorem dL_undone_300 : decode cL_undone 300 = .ok (.ldc_w 335, 3) := by decide +kernel
theorem dL_undone_303 : decode cL_undone 303 = .ok (.invokevirtual 286, 3) := by decide +kernel
theorem dL_undone_306 : decode cL_undone 306 = .ok (.iload 6, 2) := by decide +kernel
theorem dL_undone_308 : decode cL_undone 308 = .ok (.bipush 66, 2) := by decide +kernel
theorem dL_undone_310 : decode cL_undone 310 = .ok (.irem, 1) := by decide +kernel
theorem dL_undone_311 : decode cL_undone 311 = .ok (.invokevirtual 281, 3) := by decide +kernel
theorem dL_undone_314 : decode cL_undone 314 = .ok (.iload 5, 2) := by decide +kernel
theorem dL_undone_316 : decode cL_undone 316 = .ok (.bipush 22, 2) := by decide +kernel
theorem dL_undone_318 : decode cL_undone 318 = .ok (.irem, 1) := by decide +kernel
theorem dL_undone_319 : decode cL_undone 319 = .ok (.bipush 11, 2) := by decide +kernel
theorem dL_undone_321 : decode cL_undone 321 = .ok (.if_icmp .ge 9, 3) := by decide +kernel
theorem dL_undone_324 : decode cL_undone 324 = .ok (.ldc_w 297, 3) := by decide +kernel
theorem dL_undone_327 : decode cL_undone 327 = .ok (.goto 27, 3) := by decide +kernel
theorem dL_undone_330 : decode cL_undone 330 = .ok (.new 278, 3) := by decide +kernel
theorem dL_undone_333 : decode cL_undone 333 = .ok (.dup, 1) := by decide +kernel
theorem dL_undone_334 : decode cL_undone 334 = .ok (.invokespecial 280, 3) := by decide +kernel
theorem dL_undone_337 : decode cL_undone 337 = .ok (.ldc_w 337, 3) := by decide +kernel
theorem dL_undone_340 : decode cL_undone 340 = .ok (.invokevirtual 286, 3) := by decide +kernel
theorem dL_undone_343 : decode cL_undone 343 = .ok (.iload 6, 2) := by decide +kernel
theorem dL_undone_345 : decode cL_undone 345 = .ok (.bipush 16, 2) := by decide +kernel
theorem dL_undone_347 : decode cL_undone 347 = .ok (.irem, 1) := by decide +kernel
theorem dL_undone_348 : decode cL_undone 348 = .ok (.invokevirtual 281, 3) := by decide +kernel
theorem dL_undone_351 : decode cL_undone 351 = .ok (.invokevirtual 293, 3) := by decide +kernel
theorem dL_undone_354 : decode cL_undone 354 = .ok (.invokevirtual 286, 3) := by decide +kernel
theorem dL_undone_357 : decode cL_undone 357 = .ok (.ldc_w 339, 3) := by decide +kernel
theorem dL_undone_360 : decode cL_undone 360 = .ok (.invokevirtual 286, 3) := by decide +kernel
theorem dL_undone_363 : decode cL_undone 363 = .ok (.iload 6, 2) := by decide +kernel
theorem dL_undone_365 : decode cL_undone 365 = .ok (.bipush 64, 2) := by decide +kernel
theorem dL_undone_367 : decode cL_undone 367 = .ok (.irem, 1) := by decide +kernel
theorem dL_undone_368 : decode cL_undone 368 = .ok (.invokevirtual 281, 3) := by decide +kernel
theorem dL_undone_371 : decode cL_undone 371 = .ok (.invokevirtual 293, 3) := by decide +kernel
theorem dL_undone_374 : decode cL_undone 374 = .ok (.invokestatic 341, 3) := by decide +kernel
theorem dL_undone_377 : decode cL_undone 377 = .ok (.istore 7, 2) := by decide +kernel
theorem dL_undone_379 : decode cL_undone 379 = .ok (.iload 7, 2) := by decide +kernel
theorem dL_undone_381 : decode cL_undone 381 = .ok (.ifCond .ge 16, 3) := by decide +kernel
theorem dL_undone_384 : decode cL_undone 384 = .ok (.aload_n 1, 1) := by decide +kernel
theorem dL_undone_385 : decode cL_undone 385 = .ok (.invokestatic 325, 3) := by decide +kernel
theorem dL_undone_388 : decode cL_undone 388 = .ok (.aload_n 2, 1) := by decide +kernel
theorem dL_undone_389 : decode cL_undone 389 = .ok (.iload_n 3, 1) := by decide +kernel
theorem dL_undone_390 : decode cL_undone 390 = .ok (.laload, 1) := by decide +kernel
theorem dL_undone_391 : decode cL_undone 391 = .ok (.lcmp, 1) := by decide +kernel
theorem dL_undone_392 : decode cL_undone 392 = .ok (.ifCond .eq 5, 3) := by decide +kernel
theorem dL_undone_395 : decode cL_undone 395 = .ok (.iconst 0, 1) := by decide +kernel
theorem dL_undone_396 : decode cL_undone 396 = .ok (.ireturn, 1) := by decide +kernel
theorem dL_undone_397 : decode cL_undone 397 = .ok (.iload_n 3, 1) := by decide +kernel
theorem dL_undone_398 : decode cL_undone 398 = .ok (.iload 7, 2) := by decide +kernel
theorem dL_undone_400 : decode cL_undone 400 = .ok (.ifCond .ge 7, 3) := by decide +kernel
theorem dL_undone_403 : decode cL_undone 403 = .ok (.iconst 0, 1) := by decide +kernel
theorem dL_undone_404 : decode cL_undone 404 = .ok (.goto 4, 3) := by decide +kernel
theorem dL_undone_407 : decode cL_undone 407 = .ok (.iconst 1, 1) := by decide +kernel
theorem dL_undone_408 : decode cL_undone 408 = .ok (.iadd, 1) := by decide +kernel
theorem dL_undone_409 : decode cL_undone 409 = .ok (.istore_n 3, 1) := by decide +kernel
theorem dL_undone_410 : decode cL_undone 410 = .ok (.iinc 4 1, 3) := by decide +kernel
theorem dL_undone_413 : decode cL_undone 413 = .ok (.goto (-403), 3) := by decide +kernel
theorem dL_undone_416 : decode cL_undone 416 = .ok (.iload_n 3, 1) := by decide +kernel
theorem dL_undone_417 : decode cL_undone 417 = .ok (.iconst 1, 1) := by decide +kernel
theorem dL_undone_418 : decode cL_undone 418 = .ok (.isub, 1) := by decide +kernel
theorem dL_undone_419 : decode cL_undone 419 = .ok (.istore 4, 2) := by decide +kernel
theorem dL_undone_421 : decode cL_undone 421 = .ok (.iload 4, 2) := by decide +kernel
theorem dL_undone_423 : decode cL_undone 423 = .ok (.ifCond .lt 30, 3) := by decide +kernel
theorem dL_undone_426 : decode cL_undone 426 = .ok (.aload_n 1, 1) := by decide +kernel
theorem dL_undone_427 : decode cL_undone 427 = .ok (.invokestatic 344, 3) := by decide +kernel
theorem dL_undone_430 : decode cL_undone 430 = .ok (.ifCond .lt 15, 3) := by decide +kernel
theorem dL_undone_433 : decode cL_undone 433 = .ok (.aload_n 1, 1) := by decide +kernel
theorem dL_undone_434 : decode cL_undone 434 = .ok (.invokestatic 325, 3) := by decide +kernel
theorem dL_undone_437 : decode cL_undone 437 = .ok (.aload_n 2, 1) := by decide +kernel
theorem dL_undone_438 : decode cL_undone 438 = .ok (.iload 4, 2) := by decide +kernel
theorem dL_undone_440 : decode cL_undone 440 = .ok (.laload, 1) := by decide +kernel
theorem dL_undone_441 : decode cL_undone 441 = .ok (.lcmp, 1) := by decide +kernel
theorem dL_undone_442 : decode cL_undone 442 = .ok (.ifCond .eq 5, 3) := by decide +kernel
theorem dL_undone_445 : decode cL_undone 445 = .ok (.iconst 0, 1) := by decide +kernel
theorem dL_undone_446 : decode cL_undone 446 = .ok (.ireturn, 1) := by decide +kernel
theorem dL_undone_447 : decode cL_undone 447 = .ok (.iinc 4 (-1), 3) := by decide +kernel
theorem dL_undone_450 : decode cL_undone 450 = .ok (.goto (-29), 3) := by decide +kernel
theorem dL_undone_453 : decode cL_undone 453 = .ok (.iconst 1, 1) := by decide +kernel
theorem dL_undone_454 : decode cL_undone 454 = .ok (.ireturn, 1) := by decide +kernel
section SGL
variable {p : Program} {l : Launch} {e : Env} {R : Room} {s : State} {m : MethodId} {args : Array Value} {below : List Frame} {meth : Method} {c : Code} {Q : State → Prop} {nL cells slots : Nat} {D : va_G} {g : Nat → ClassId} {ax : Nat → Nat} {ad : Nat → Nat → Nat} {x : XVal} {Y : va_W} {A : Nat → Prop} {ev : LEv}
set_option maxHeartbeats 4000000 in
set_option maxRecDepth 100000 in
theorem sg_lines_c {qbl q1 rz vz nz n1 v1 m1 wn : Nat} {fz f1 : Nat → Int32} {t1 tz : List Int32} {scz : va_W} {n2 i o w0 : Int32} {hl : Int32 × XVal} (hfl : l.stackTraces = false) (X : CX p s m args meth c cL_lines nL RL D g) (hK : KF ev A s s.heap) (hA : ∀ q, s.heap.size ≤ q → A q) (hf : 16 ≤ R.frames) (hl0 : 400 ≤ R.locals) (hnL : 4 < nL) (hTz : HTX ev D A s rz vz nz fz scz) (htz : TQ nz fz tz) (hok : SBok n1 t1 (v1, m1, f1)) (hn : n1 + nz ≤ 24) (e4 : F_L_of i (4 : Int32) x = some w0) (hw : w0 = nI wn ∧ wn < 1000000) (eh : F_L_houseLine i x = some hl) (es : F_L_spells (t1 ++ tz ++ (tB 5).drop (9 - wn)).length (tFn (t1 ++ tz ++ (tB 5).drop (9 - wn))) hl.1 hl.2 = some o) (hc : cells + 40 ≤ R.cells) (hs : slots + 400 ≤ R.slots) (kk : Z p l e R s m args below meth c Q nL (cells + 40) (slots + 400) (IW D A s (OW g ax ad hl.2 ++ Y)) 444 [(0, .ref (ax 0)), (1, .ref qbl), (2, .int n2), (3, .int i)] [.int o]) : Z p l e R s m args below meth c Q nL (cells) (slots) (IW D A s (OW g ax ad x ++ (scz ++ (SBW g q1 n1 (v1, m1, f1) ++ Y)))) 403 [(0, .ref (ax 0)), (1, .ref qbl), (2, .int n2), (3, .int i)] [.ref rz, .ref q1] := by
  have pmO : ∀ {Y : va_W}, bkc (OW g ax ad x ++ Y) (OW g ax ad x) ∧ bk (OW g ax ad x ++ Y) (OW g ax ad x ++ Y) (OW g ax ad x) (OW g ax ad x) := pm_O
  refine z_sbS hfl X hA hTz htz hok (by omega) dL_lines_403 (by omega) (by omega) (by omega) (by omega) (Nat.le_of_ble_eq_true rfl) (fun a0 ok_b => ?_)
  obtain ⟨v_b, m_b, f_b⟩ := a0
  refine z_ldcT (si := 5) X hK (by decide) rfl dL_lines_406 ?_
  refine z_iconst X (0 : Int32) dL_lines_409 (by decide) ?_
  refine z_bipush X (9 : Int32) dL_lines_410 (by decide) ?_
  refine z_aload_n X 0 dL_lines_412 rfl rfl ?_
  refine z_iload_n X 3 dL_lines_413 rfl rfl ?_
  refine z_iconst X (4 : Int32) dL_lines_414 (by decide) ?_
  refine z_gSH (rest := [.int (9 : Int32), .int (0 : Int32), .ref (ev.tk 5), .ref q1]) (ws' := OW g ax ad x ++ _) X (KF_ok ev) (kc_of (KF_ok ev) (fun _ _ _ q => q) hK hA pmO.1) hA k_L_of (c_L_of l hfl ev D g ad ax i (4 : Int32) x _ e4) ql_L_L_of dL_lines_415 pmO.1 pmO.2 rfl rfl ⟨Nat.le_trans (m := 16) (Nat.le_of_ble_eq_true rfl) hf, Nat.le_trans (m := 400) (Nat.le_of_ble_eq_true rfl) hl0, rfl, rfl, by omega, by omega⟩ (Nat.le_of_ble_eq_true rfl) ?_
  refine z_isub X dL_lines_418 ?_
  refine z_mmax X ql_L_mmax dL_lines_419 (by omega) (Nat.le_trans (m := 400) (Nat.le_of_ble_eq_true rfl) hl0) (by omega) (by omega) ?_
  rw [hw.1, mx_nI hw.2]
  refine z_sbE (i := 5) hfl X hK hA (by decide) (by show 9 - wn ≤ 9; omega) rfl dL_lines_422 (by omega) (by omega) (by omega) (by omega) (Nat.le_of_ble_eq_true rfl) (fun r5 v5 n5 f5 sc5 ht5 hT5 => ?_)
  have l5 : n5 ≤ 9 := by have := ht5.1; rw [List.length_drop] at this; have l9 : (tByt.getD 5 []).length = 9 := rfl; omega
  refine z_sbS hfl X hA hT5 ht5 ok_b (by omega) dL_lines_425 (by omega) (by omega) (by omega) (by omega) (Nat.le_of_ble_eq_true rfl) (fun a0 ok_c => ?_)
  obtain ⟨v_c, m_c, f_c⟩ := a0
  refine z_sbT hfl X hK hA ok_c dL_lines_428 (by omega) (by omega) (by omega) (by omega) (Nat.le_of_ble_eq_true rfl) (fun r6 v6 f6 ht6 hT6 => ?_)
  refine z_astore X ((4, .ref r6) :: [(0, .ref (ax 0)), (1, .ref qbl), (2, .int n2), (3, .int i)]) dL_lines_431 hnL rfl ?_
  refine z_aload_n X 1 dL_lines_433 rfl rfl ?_
  refine z_aload_n X 1 dL_lines_434 rfl rfl ?_
  refine z_iload_n X 4 dL_lines_435 rfl rfl ?_
  have fh : ∀ {Y : va_W}, bkc (OW g ax ad x ++ Y) (OW g ax ad x) ∧ bk (OW g ax ad x ++ Y) (OW g ax ad hl.2 ++ Y) (OW g ax ad x) (OW g ax ad hl.2) := bk_perm (List.Perm.refl _) (List.Perm.refl _) OW_fst
  refine z_gSH (rest := [.ref (ax 0)]) (ws' := OW g ax ad hl.2 ++ _) X (KF_ok ev) (kc_of (KF_ok ev) (fun _ _ _ q => q) hK hA fh.1) hA k_L_houseLine (c_L_houseLine l hfl ev D g ad ax i x hl eh) ql_L_L_houseLine dL_lines_436 fh.1 fh.2 rfl rfl ⟨Nat.le_trans (m := 16) (Nat.le_of_ble_eq_true rfl) hf, Nat.le_trans (m := 400) (Nat.le_of_ble_eq_true rfl) hl0, rfl, rfl, by omega, by omega⟩ (Nat.le_of_ble_eq_true rfl) ?_
  refine z_aload X 0 dL_lines_439 rfl ?_
  have es2 : F_L_spells (n1 + nz + n5) f6 hl.1 hl.2 = some o := by
    rw [F_spells_cong (f2 := tFn (t1 ++ tz ++ (tB 5).drop (9 - wn))) (fun i hi => (ht6.2 i hi).1), show n1 + nz + n5 = (t1 ++ tz ++ (tB 5).drop (9 - wn)).length from ht6.1.symm]
    exact es
  have pm2 : ∀ {Y : va_W}, bkc (OW g ax ad hl.2 ++ Y) (OW g ax ad hl.2) ∧ bk (OW g ax ad hl.2 ++ Y) (OW g ax ad hl.2 ++ Y) (OW g ax ad hl.2) (OW g ax ad hl.2) := pm_O
  refine z_gS (rest := []) (ws' := OW g ax ad hl.2 ++ _) X (KT_ok ev r6 v6 (n1 + nz + n5) f6) (hT6 _ _ Y (List.Perm.refl _)) hA k_L_spells (c_L_spells l hfl ev D g ad ax r6 v6 (n1 + nz + n5) f6 hl.1 hl.2 o es2) ql_L_L_spells dL_lines_441 pm2.1 pm2.2 rfl rfl ⟨Nat.le_trans (m := 16) (Nat.le_of_ble_eq_true rfl) hf, Nat.le_trans (m := 400) (Nat.le_of_ble_eq_true rfl) hl0, rfl, rfl, by omega, by omega⟩ (Nat.le_of_ble_eq_true rfl) ?_
  refine z_drop (ws' := OW g ax ad hl.2 ++ Y) (wr := STW g r6 v6 (n1 + nz + n5) f6) ?_ ?_
  · rw [List.append_assoc]
    exact List.Perm.append_left _ List.perm_append_comm
  · refine z_sub [1, 2, 3, 4] rfl ?_
    exact z_widen (by omega) (by omega) kk
def zI (z : Int32) : Nat := if z = 0 then 3 else 4
set_option maxHeartbeats 4000000 in
set_option maxRecDepth 100000 in
theorem sg_lines_b {qbl q1 ry vy ny n1 v1 m1 wn : Nat} {fy f1 : Nat → Int32} {t1 ty : List Int32} {scy : va_W} {n2 i o w0 : Int32} {hl : Int32 × XVal} (hfl : l.stackTraces = false) (X : CX p s m args meth c cL_lines nL RL D g) (hK : KF ev A s s.heap) (hA : ∀ q, s.heap.size ≤ q → A q) (hf : 16 ≤ R.frames) (hl0 : 400 ≤ R.locals) (hnL : 4 < nL) (hTy : HTX ev D A s ry vy ny fy scy) (hty : TQ ny fy ty) (hok : SBok n1 t1 (v1, m1, f1)) (hn : n1 + ny ≤ 23) {oa : Nat × Int32 × XVal} (ea : G_account (0 : Int32) x = some oa) (ha0 : oa.1 = 0) {z : Int32} (ez : F_L_sleeps i oa.2.1 x = some z) (e4 : F_L_of i (4 : Int32) x = some w0) (hw : w0 = nI wn ∧ wn < 1000000) (eh : F_L_houseLine i x = some hl) (es : F_L_spells (t1 ++ ty ++ tB (zI z) ++ (tB 5).drop (9 - wn)).length (tFn (t1 ++ ty ++ tB (zI z) ++ (tB 5).drop (9 - wn))) hl.1 hl.2 = some o) (hc : cells + 60 ≤ R.cells) (hs : slots + 600 ≤ R.slots) (kk : Z p l e R s m args below meth c Q nL (cells + 60) (slots + 600) (IW D A s (OW g ax ad hl.2 ++ Y)) 444 [(0, .ref (ax 0)), (1, .ref qbl), (2, .int n2), (3, .int i)] [.int o]) : Z p l e R s m args below meth c Q nL (cells) (slots) (IW D A s (OW g ax ad x ++ (scy ++ (SBW g q1 n1 (v1, m1, f1) ++ Y)))) 378 [(0, .ref (ax 0)), (1, .ref qbl), (2, .int n2), (3, .int i)] [.ref ry, .ref q1] := by
  have pmO : ∀ {Y : va_W}, bkc (OW g ax ad x ++ Y) (OW g ax ad x) ∧ bk (OW g ax ad x ++ Y) (OW g ax ad x ++ Y) (OW g ax ad x) (OW g ax ad x) := pm_O
  refine z_sbS hfl X hA hTy hty hok (by omega) dL_lines_378 (by omega) (by omega) (by omega) (by omega) (Nat.le_of_ble_eq_true rfl) (fun a0 ok_b => ?_)
  obtain ⟨v_b, m_b, f_b⟩ := a0
  refine z_aload_n X 0 dL_lines_381 rfl rfl ?_
  refine z_iload_n X 3 dL_lines_382 rfl rfl ?_
  refine z_aload_n X 0 dL_lines_383 rfl rfl ?_
  refine z_iconst X (0 : Int32) dL_lines_384 (by decide) ?_
  obtain ⟨wc9, wd9, hN9, b9, d9, x9⟩ := nx_account l hfl ev.ak ev.av ev.aS D g ad ax (0 : Int32) x oa.1 oa.2.1 oa.2.2 ea
  rw [x9] at d9
  refine z_exV (rest := [.int i, .ref (ax 0), .ref q1]) (q0 := 0) (ci := 11) (ws' := OW g ax ad x ++ _) X hK.1 hA k_X11_account hN9 ql_L_X11_account dL_lines_385 (bk_front b9 d9).1 (bk_front b9 d9).2 rfl rfl rfl rfl rfl ⟨Nat.le_trans (m := 16) (Nat.le_of_ble_eq_true rfl) hf, Nat.le_trans (m := 400) (Nat.le_of_ble_eq_true rfl) hl0, rfl, rfl, by omega, by omega⟩ (Nat.le_of_ble_eq_true rfl) (fun _ => ?_) (fun q => absurd ha0 q)
  refine z_gS (rest := [.ref q1]) (ws' := OW g ax ad x ++ _) X (KF_ok ev) (kc_of (KF_ok ev) (fun _ _ _ q => q) hK hA pmO.1) hA k_L_sleeps (c_L_sleeps l hfl ev D g ad ax i oa.2.1 x z ez) ql_L_L_sleeps dL_lines_388 pmO.1 pmO.2 rfl rfl ⟨Nat.le_trans (m := 16) (Nat.le_of_ble_eq_true rfl) hf, Nat.le_trans (m := 400) (Nat.le_of_ble_eq_true rfl) hl0, rfl, rfl, by omega, by omega⟩ (Nat.le_of_ble_eq_true rfl) ?_
  by_cases hz0 : z = 0
  · refine z_if_eq (F1 := some ()) (F2 := some ()) (o := ()) X 400 dL_lines_391 (by decide) (by unfold brn; split <;> rfl) (fun _ _ => ?_) (fun hh _ => absurd hz0 hh)
    refine z_ldcT (si := 3) X hK (by decide) rfl dL_lines_400 ?_
    exact sg_lines_c (scz := []) (tz := tByt.getD 3 []) hfl X hK hA hf hl0 hnL (HTX.fact hK hA (lit_TX hK (i := 3) (by decide))) (lit_TQ (i := 3) (by decide)) ok_b (by show n1 + ny + 0 ≤ 24; omega) e4 hw eh (by rw [show zI z = 3 from if_pos hz0] at es; exact es) (by omega) (by omega) (z_widen (by omega) (by omega) kk)
  · refine z_if_eq (F1 := some ()) (F2 := some ()) (o := ()) X 400 dL_lines_391 (by decide) (by unfold brn; split <;> rfl) (fun hh _ => absurd hh hz0) (fun _ _ => ?_)
    refine z_ldcT (si := 4) X hK (by decide) rfl dL_lines_394 ?_
    refine z_goto X 403 dL_lines_397 (by decide) ?_
    exact sg_lines_c (scz := []) (tz := tByt.getD 4 []) hfl X hK hA hf hl0 hnL (HTX.fact hK hA (lit_TX hK (i := 4) (by decide))) (lit_TQ (i := 4) (by decide)) ok_b (by show n1 + ny + 1 ≤ 24; omega) e4 hw eh (by rw [show zI z = 4 from if_neg hz0] at es; exact es) (by omega) (by omega) (z_widen (by omega) (by omega) kk)
abbrev isDg (v : Int32) : Prop := v = nI v.toNatClampNeg ∧ v.toNatClampNeg < 100
def lnA (i h : Int32) : List Int32 := (([] ++ dgl i.toNatClampNeg) ++ tB 0) ++ dgl h.toNatClampNeg
def lnB (a b : Int32) : List Int32 := ((([] ++ tB 1) ++ dgl a.toNatClampNeg) ++ tB 2) ++ dgl b.toNatClampNeg
def F_sg_mid (i : Int32) (x : XVal) (t : Int32) : Option (List Int32) := brn (t ≤ 0) (some (tB 3)) (bnd (F_L_of i (1 : Int32) x) fun a1 => bnd (F_L_of i (2 : Int32) x) fun a2 => grd (isDg a1 ∧ isDg a2) (some (lnB a1 a2)))
/-- the text of a house's line, against what the town writes -/
def F_sg_lines (i : Int32) (x : XVal) : Option (Int32 × XVal) :=
  bnd (F_L_of i (0 : Int32) x) fun h => bnd (F_L_of i (7 : Int32) x) fun t => grd (isDg i ∧ isDg h) (bnd (F_sg_mid i x t) fun T1 =>
  bnd (G_account (0 : Int32) x) fun oa => grd (oa.1 = 0) (bnd (F_L_sleeps i oa.2.1 x) fun z => bnd (F_L_of i (4 : Int32) x) fun w0 => grd (w0 = nI w0.toNatClampNeg ∧ w0.toNatClampNeg < 1000000) (bnd (F_L_houseLine i x) fun hl =>
  bnd (F_L_spells (lnA i h ++ T1 ++ tB (zI z) ++ (tB 5).drop (9 - w0.toNatClampNeg)).length (tFn (lnA i h ++ T1 ++ tB (zI z) ++ (tB 5).drop (9 - w0.toNatClampNeg))) hl.1 hl.2) fun o => some (o, hl.2))))
set_option maxHeartbeats 4000000 in
set_option maxRecDepth 100000 in
theorem sg_lines {qbl : Nat} {n2 i : Int32} {o : Int32 × XVal} (hfl : l.stackTraces = false) (X : CX p s m args meth c cL_lines nL RL D g) (hK : KF ev A s s.heap) (hA : ∀ q, s.heap.size ≤ q → A q) (hf : 16 ≤ R.frames) (hl0 : 400 ≤ R.locals) (hnL : 4 < nL) (h : F_sg_lines i x = some o) (hc : cells + 90 ≤ R.cells) (hs : slots + 1000 ≤ R.slots) (kk : Z p l e R s m args below meth c Q nL (cells + 90) (slots + 1000) (IW D A s (OW g ax ad o.2 ++ Y)) 444 [(0, .ref (ax 0)), (1, .ref qbl), (2, .int n2), (3, .int i)] [.int o.1]) : Z p l e R s m args below meth c Q nL (cells) (slots) (IW D A s (OW g ax ad x ++ Y)) 296 [(0, .ref (ax 0)), (1, .ref qbl), (2, .int n2), (3, .int i)] [] := by
  have pmO : ∀ {Y : va_W}, bkc (OW g ax ad x ++ Y) (OW g ax ad x) ∧ bk (OW g ax ad x ++ Y) (OW g ax ad x ++ Y) (OW g ax ad x) (OW g ax ad x) := pm_O
  obtain ⟨h0, eh0, h⟩ := bnd_p h
  obtain ⟨t0, et0, h⟩ := bnd_p h
  obtain ⟨⟨di, dh⟩, h⟩ := grd_p h
  obtain ⟨T1, eT, h⟩ := bnd_p h
  obtain ⟨oa, ea, h⟩ := bnd_p h
  obtain ⟨ha0, h⟩ := grd_p h
  obtain ⟨z, ez, h⟩ := bnd_p h
  obtain ⟨w0, e4, h⟩ := bnd_p h
  obtain ⟨hw, h⟩ := grd_p h
  obtain ⟨hl, eh, h⟩ := bnd_p h
  obtain ⟨o1, es, h⟩ := bnd_p h
  cases h
  have k1 := dn_in i.toNatClampNeg
  have k2 := dn_in h0.toNatClampNeg
  refine z_sbn hfl X hK hA dL_lines_296 dL_lines_299 dL_lines_300 (by omega) (by omega) (by omega) (by omega) (fun _ => (Nat.le_of_ble_eq_true rfl)) (fun q1 a0 ok_a => ?_)
  obtain ⟨v_a, m_a, f_a⟩ := a0
  refine z_iload_n X 3 dL_lines_303 rfl rfl ?_
  refine z_sbI hfl X hK hA ok_a di.2 (by omega) di.1 dL_lines_304 (by omega) (by omega) (by omega) (by omega) (Nat.le_of_ble_eq_true rfl) (fun a0 ok_b => ?_)
  obtain ⟨v_b, m_b, f_b⟩ := a0
  refine z_ldcT (si := 0) X hK (by decide) rfl dL_lines_307 ?_
  refine z_sbS hfl X hA (sc := []) (HTX.fact hK hA (lit_TX hK (i := 0) (by decide))) (lit_TQ (i := 0) (by decide)) ok_b (by show 0 + dn i.toNatClampNeg + 1 ≤ 34; omega) dL_lines_310 (by omega) (by omega) (by omega) (by omega) (Nat.le_of_ble_eq_true rfl) (fun a0 ok_c => ?_)
  obtain ⟨v_c, m_c, f_c⟩ := a0
  refine z_aload_n X 0 dL_lines_313 rfl rfl ?_
  refine z_iload_n X 3 dL_lines_314 rfl rfl ?_
  refine z_iconst X (0 : Int32) dL_lines_315 (by decide) ?_
  refine z_gSH (rest := [.ref q1]) (ws' := OW g ax ad x ++ _) X (KF_ok ev) (kc_of (KF_ok ev) (fun _ _ _ q => q) hK hA pmO.1) hA k_L_of (c_L_of l hfl ev D g ad ax i (0 : Int32) x _ eh0) ql_L_L_of dL_lines_316 pmO.1 pmO.2 rfl rfl ⟨Nat.le_trans (m := 16) (Nat.le_of_ble_eq_true rfl) hf, Nat.le_trans (m := 400) (Nat.le_of_ble_eq_true rfl) hl0, rfl, rfl, by omega, by omega⟩ (Nat.le_of_ble_eq_true rfl) ?_
  refine z_sbI hfl X hK hA ok_c dh.2 (by show 0 + dn i.toNatClampNeg + 1 + 2 ≤ 34; omega) dh.1 dL_lines_319 (by omega) (by omega) (by omega) (by omega) (Nat.le_of_ble_eq_true rfl) (fun a0 ok_d => ?_)
  obtain ⟨v_d, m_d, f_d⟩ := a0
  refine z_aload_n X 0 dL_lines_322 rfl rfl ?_
  refine z_iload_n X 3 dL_lines_323 rfl rfl ?_
  refine z_bipush X (7 : Int32) dL_lines_324 (by decide) ?_
  refine z_gSH (rest := [.ref q1]) (ws' := OW g ax ad x ++ _) X (KF_ok ev) (kc_of (KF_ok ev) (fun _ _ _ q => q) hK hA pmO.1) hA k_L_of (c_L_of l hfl ev D g ad ax i (7 : Int32) x _ et0) ql_L_L_of dL_lines_326 pmO.1 pmO.2 rfl rfl ⟨Nat.le_trans (m := 16) (Nat.le_of_ble_eq_true rfl) hf, Nat.le_trans (m := 400) (Nat.le_of_ble_eq_true rfl) hl0, rfl, rfl, by omega, by omega⟩ (Nat.le_of_ble_eq_true rfl) ?_
  by_cases ht0 : t0 ≤ 0
  · refine z_if_le (F1 := some ()) (F2 := some ()) (o := ()) X 375 dL_lines_329 (by decide) (by unfold brn; split <;> rfl) (fun _ _ => ?_) (fun hh _ => absurd ht0 hh)
    refine z_ldcT (si := 3) X hK (by decide) rfl dL_lines_375 ?_
    have eT1 : tB 3 = T1 := by unfold F_sg_mid at eT; rw [brn_pos _ _ ht0] at eT; exact Option.some.inj eT
    subst eT1
    exact sg_lines_b (scy := []) (ty := tByt.getD 3 []) hfl X hK hA hf hl0 hnL (HTX.fact hK hA (lit_TX hK (i := 3) (by decide))) (lit_TQ (i := 3) (by decide)) ok_d (by show 0 + dn i.toNatClampNeg + 1 + dn h0.toNatClampNeg + 0 ≤ 23; omega) ea ha0 ez e4 hw eh es (by omega) (by omega) (z_widen (by omega) (by omega) kk)
  · refine z_if_le (F1 := some ()) (F2 := some ()) (o := ()) X 375 dL_lines_329 (by decide) (by unfold brn; split <;> rfl) (fun hh _ => absurd hh ht0) (fun _ _ => ?_)
    unfold F_sg_mid at eT
    rw [brn_neg _ _ ht0] at eT
    obtain ⟨a1, ea1, eT⟩ := bnd_p eT
    obtain ⟨a2, ea2, eT⟩ := bnd_p eT
    obtain ⟨⟨d1, d2⟩, eT⟩ := grd_p eT
    cases eT
    have k3 := dn_in a1.toNatClampNeg
    have k4 := dn_in a2.toNatClampNeg
    refine z_sbn hfl X hK hA dL_lines_332 dL_lines_335 dL_lines_336 (by omega) (by omega) (by omega) (by omega) (fun _ => (Nat.le_of_ble_eq_true rfl)) (fun q2 a0 ok_e => ?_)
    obtain ⟨v_e, m_e, f_e⟩ := a0
    refine z_ldcT (si := 1) X hK (by decide) rfl dL_lines_339 ?_
    refine z_sbS hfl X hA (sc := []) (HTX.fact hK hA (lit_TX hK (i := 1) (by decide))) (lit_TQ (i := 1) (by decide)) ok_e (by show 0 + 1 ≤ 34; omega) dL_lines_342 (by omega) (by omega) (by omega) (by omega) (Nat.le_of_ble_eq_true rfl) (fun a0 ok_f => ?_)
    obtain ⟨v_f, m_f, f_f⟩ := a0
    refine z_aload_n X 0 dL_lines_345 rfl rfl ?_
    refine z_iload_n X 3 dL_lines_346 rfl rfl ?_
    refine z_iconst X (1 : Int32) dL_lines_347 (by decide) ?_
    refine z_gSH (rest := [.ref q2, .ref q1]) (ws' := OW g ax ad x ++ _) X (KF_ok ev) (kc_of (KF_ok ev) (fun _ _ _ q => q) hK hA pmO.1) hA k_L_of (c_L_of l hfl ev D g ad ax i (1 : Int32) x _ ea1) ql_L_L_of dL_lines_348 pmO.1 pmO.2 rfl rfl ⟨Nat.le_trans (m := 16) (Nat.le_of_ble_eq_true rfl) hf, Nat.le_trans (m := 400) (Nat.le_of_ble_eq_true rfl) hl0, rfl, rfl, by omega, by omega⟩ (Nat.le_of_ble_eq_true rfl) ?_
    refine z_sbI hfl X hK hA ok_f d1.2 (by show 0 + 1 + 2 ≤ 34; omega) d1.1 dL_lines_351 (by omega) (by omega) (by omega) (by omega) (Nat.le_of_ble_eq_true rfl) (fun a0 ok_g => ?_)
    obtain ⟨v_g, m_g, f_g⟩ := a0
    refine z_ldcT (si := 2) X hK (by decide) rfl dL_lines_354 ?_
    refine z_sbS hfl X hA (sc := []) (HTX.fact hK hA (lit_TX hK (i := 2) (by decide))) (lit_TQ (i := 2) (by decide)) ok_g (by show 0 + 1 + dn a1.toNatClampNeg + 1 ≤ 34; omega) dL_lines_357 (by omega) (by omega) (by omega) (by omega) (Nat.le_of_ble_eq_true rfl) (fun a0 ok_h => ?_)
    obtain ⟨v_h, m_h, f_h⟩ := a0
    refine z_aload_n X 0 dL_lines_360 rfl rfl ?_
    refine z_iload_n X 3 dL_lines_361 rfl rfl ?_
    refine z_iconst X (2 : Int32) dL_lines_362 (by decide) ?_
    refine z_gSH (rest := [.ref q2, .ref q1]) (ws' := OW g ax ad x ++ _) X (KF_ok ev) (kc_of (KF_ok ev) (fun _ _ _ q => q) hK hA pmO.1) hA k_L_of (c_L_of l hfl ev D g ad ax i (2 : Int32) x _ ea2) ql_L_L_of dL_lines_363 pmO.1 pmO.2 rfl rfl ⟨Nat.le_trans (m := 16) (Nat.le_of_ble_eq_true rfl) hf, Nat.le_trans (m := 400) (Nat.le_of_ble_eq_true rfl) hl0, rfl, rfl, by omega, by omega⟩ (Nat.le_of_ble_eq_true rfl) ?_
    refine z_sbI hfl X hK hA ok_h d2.2 (by show 0 + 1 + dn a1.toNatClampNeg + 1 + 2 ≤ 34; omega) d2.1 dL_lines_366 (by omega) (by omega) (by omega) (by omega) (Nat.le_of_ble_eq_true rfl) (fun a0 ok_j => ?_)
    obtain ⟨v_j, m_j, f_j⟩ := a0
    refine z_sbT hfl X hK hA ok_j dL_lines_369 (by omega) (by omega) (by omega) (by omega) (Nat.le_of_ble_eq_true rfl) (fun r6 v6 f6 ht6 hT6 => ?_)
    refine z_goto X 378 dL_lines_372 (by decide) ?_
    exact sg_lines_b (ty := lnB a1 a2) hfl X hK hA hf hl0 hnL hT6 ht6 ok_d (by show 0 + dn i.toNatClampNeg + 1 + dn h0.toNatClampNeg + (0 + 1 + dn a1.toNatClampNeg + 1 + dn a2.toNatClampNeg) ≤ 23; omega) ea ha0 ez e4 hw eh es (by omega) (by omega) (z_widen (by omega) (by omega) kk)
def rmI (a k : Int32) : Int32 := a - a / k * k
def unA (b : Int32) : List Int32 := ([] ++ tB 6) ++ dgl (rmI b 66).toNatClampNeg
def unB (b : Int32) : List Int32 := ([] ++ tB 7) ++ dgl (rmI b 16).toNatClampNeg
def unM (a b : Int32) : List Int32 := if (11 : Int32) ≤ rmI a 22 then unB b else tB 3
def unT (a b : Int32) : List Int32 := ((unA b ++ unM a b) ++ tB 8) ++ dgl (rmI b 64).toNatClampNeg
/-- the text that undone lays on the sheet, run -/
def F_sg_undone (a b : Int32) (x : XVal) : Option (Int32 × XVal) := grd (isDg (rmI b 66) ∧ isDg (rmI b 16) ∧ isDg (rmI b 64)) (F_L_run (unT a b).length (tFn (unT a b)) x)
set_option maxHeartbeats 4000000 in
set_option maxRecDepth 100000 in
theorem sg_undone_b {qn q1 ry vy ny n1 v1 m1 : Nat} {fy f1 : Nat → Int32} {t1 ty : List Int32} {scy : va_W} {c3 c4 a5 b6 : Int32} {o : Int32 × XVal} (hfl : l.stackTraces = false) (X : CX p s m args meth c cL_undone nL RL D g) (hK : KF ev A s s.heap) (hA : ∀ q, s.heap.size ≤ q → A q) (hf : 16 ≤ R.frames) (hl0 : 400 ≤ R.locals) (hTy : HTX ev D A s ry vy ny fy scy) (hty : TQ ny fy ty) (hok : SBok n1 t1 (v1, m1, f1)) (hn : n1 + ny ≤ 22) (d3 : isDg (rmI b6 64)) (es : F_L_run (t1 ++ ty ++ tB 8 ++ dgl (rmI b6 64).toNatClampNeg).length (tFn (t1 ++ ty ++ tB 8 ++ dgl (rmI b6 64).toNatClampNeg)) x = some o) (hc : cells + 60 ≤ R.cells) (hs : slots + 600 ≤ R.slots) (kk : Z p l e R s m args below meth c Q nL (cells + 60) (slots + 600) (IW D A s (OW g ax ad o.2 ++ Y)) 377 [(0, .ref ev.b), (1, .ref (ax 0)), (2, .ref qn), (3, .int c3), (4, .int c4), (5, .int a5), (6, .int b6)] [.int o.1]) : Z p l e R s m args below meth c Q nL (cells) (slots) (IW D A s (OW g ax ad x ++ (scy ++ (SBW g q1 n1 (v1, m1, f1) ++ Y)))) 354 [(0, .ref ev.b), (1, .ref (ax 0)), (2, .ref qn), (3, .int c3), (4, .int c4), (5, .int a5), (6, .int b6)] [.ref ry, .ref q1, .ref (ax 0)] := by
  refine z_sbS hfl X hA hTy hty hok (by omega) dL_undone_354 (by omega) (by omega) (by omega) (by omega) (Nat.le_of_ble_eq_true rfl) (fun a0 ok_b => ?_)
  obtain ⟨v_b, m_b, f_b⟩ := a0
  refine z_ldcT (si := 8) X hK (by decide) rfl dL_undone_357 ?_
  refine z_sbS hfl X hA (sc := []) (HTX.fact hK hA (lit_TX hK (i := 8) (by decide))) (lit_TQ (i := 8) (by decide)) ok_b (by show n1 + ny + 2 ≤ 34; omega) dL_undone_360 (by omega) (by omega) (by omega) (by omega) (Nat.le_of_ble_eq_true rfl) (fun a0 ok_c => ?_)
  obtain ⟨v_c, m_c, f_c⟩ := a0
  refine z_iload X 6 dL_undone_363 rfl ?_
  refine z_bipush X (64 : Int32) dL_undone_365 (by decide) ?_
  refine z_iremG (F := some ()) (o := ()) X dL_undone_367 (by unfold grd; rw [if_pos (by decide)]) (fun _ => ?_)
  refine z_sbI hfl X hK hA ok_c d3.2 (by show n1 + ny + 2 + 2 ≤ 34; omega) d3.1 dL_undone_368 (by omega) (by omega) (by omega) (by omega) (Nat.le_of_ble_eq_true rfl) (fun a0 ok_d => ?_)
  obtain ⟨v_d, m_d, f_d⟩ := a0
  refine z_sbT hfl X hK hA ok_d dL_undone_371 (by omega) (by omega) (by omega) (by omega) (Nat.le_of_ble_eq_true rfl) (fun r6 v6 f6 ht6 hT6 => ?_)
  have es2 : F_L_run (n1 + ny + tLen.getD 8 0 + dn (rmI b6 64).toNatClampNeg) f6 x = some o := by
    rw [F_run_cong (f2 := tFn (t1 ++ ty ++ tB 8 ++ dgl (rmI b6 64).toNatClampNeg)) (fun i hi => (ht6.2 i hi).1), show n1 + ny + tLen.getD 8 0 + dn (rmI b6 64).toNatClampNeg = (t1 ++ ty ++ tB 8 ++ dgl (rmI b6 64).toNatClampNeg).length from ht6.1.symm]
    exact es
  have fh : ∀ {Y : va_W}, bkc (OW g ax ad x ++ Y) (OW g ax ad x) ∧ bk (OW g ax ad x ++ Y) (OW g ax ad o.2 ++ Y) (OW g ax ad x) (OW g ax ad o.2) := bk_perm (List.Perm.refl _) (List.Perm.refl _) OW_fst
  refine z_gS (rest := []) (ws' := OW g ax ad o.2 ++ _) X (KT_ok ev r6 v6 _ f6) (hT6 _ _ Y (List.Perm.refl _)) hA k_L_run (c_L_run l hfl ev D g ad ax r6 v6 _ f6 x o es2) ql_L_L_run dL_undone_374 fh.1 fh.2 rfl rfl ⟨Nat.le_trans (m := 16) (Nat.le_of_ble_eq_true rfl) hf, Nat.le_trans (m := 400) (Nat.le_of_ble_eq_true rfl) hl0, rfl, rfl, by omega, by omega⟩ (Nat.le_of_ble_eq_true rfl) ?_
  refine z_drop (ws' := OW g ax ad o.2 ++ Y) (wr := STW g r6 v6 (n1 + ny + tLen.getD 8 0 + dn (rmI b6 64).toNatClampNeg) f6) ?_ ?_
  · rw [List.append_assoc]
    exact List.Perm.append_left _ List.perm_append_comm
  · exact z_widen (by omega) (by omega) kk
set_option maxHeartbeats 4000000 in
set_option maxRecDepth 100000 in
theorem sg_undone {qn : Nat} {c3 c4 a5 b6 : Int32} {o : Int32 × XVal} (hfl : l.stackTraces = false) (X : CX p s m args meth c cL_undone nL RL D g) (hK : KF ev A s s.heap) (hA : ∀ q, s.heap.size ≤ q → A q) (hf : 16 ≤ R.frames) (hl0 : 400 ≤ R.locals) (h : F_sg_undone a5 b6 x = some o) (hc : cells + 90 ≤ R.cells) (hs : slots + 1000 ≤ R.slots) (kk : Z p l e R s m args below meth c Q nL (cells + 90) (slots + 1000) (IW D A s (OW g ax ad o.2 ++ Y)) 377 [(0, .ref ev.b), (1, .ref (ax 0)), (2, .ref qn), (3, .int c3), (4, .int c4), (5, .int a5), (6, .int b6)] [.int o.1]) : Z p l e R s m args below meth c Q nL (cells) (slots) (IW D A s (OW g ax ad x ++ Y)) 293 [(0, .ref ev.b), (1, .ref (ax 0)), (2, .ref qn), (3, .int c3), (4, .int c4), (5, .int a5), (6, .int b6)] [.ref (ax 0)] := by
  obtain ⟨⟨d1, d2, d3⟩, h⟩ := grd_p h
  have k1 := dn_in (rmI b6 66).toNatClampNeg
  have k2 := dn_in (rmI b6 16).toNatClampNeg
  refine z_sbn hfl X hK hA dL_undone_293 dL_undone_296 dL_undone_297 (by omega) (by omega) (by omega) (by omega) (fun _ => (Nat.le_of_ble_eq_true rfl)) (fun q1 a0 ok_a => ?_)
  obtain ⟨v_a, m_a, f_a⟩ := a0
  refine z_ldcT (si := 6) X hK (by decide) rfl dL_undone_300 ?_
  refine z_sbS hfl X hA (sc := []) (HTX.fact hK hA (lit_TX hK (i := 6) (by decide))) (lit_TQ (i := 6) (by decide)) ok_a (by show 0 + 11 ≤ 34; omega) dL_undone_303 (by omega) (by omega) (by omega) (by omega) (Nat.le_of_ble_eq_true rfl) (fun a0 ok_b => ?_)
  obtain ⟨v_b, m_b, f_b⟩ := a0
  refine z_iload X 6 dL_undone_306 rfl ?_
  refine z_bipush X (66 : Int32) dL_undone_308 (by decide) ?_
  refine z_iremG (F := some ()) (o := ()) X dL_undone_310 (by unfold grd; rw [if_pos (by decide)]) (fun _ => ?_)
  refine z_sbI hfl X hK hA ok_b d1.2 (by show 0 + 11 + 2 ≤ 34; omega) d1.1 dL_undone_311 (by omega) (by omega) (by omega) (by omega) (Nat.le_of_ble_eq_true rfl) (fun a0 ok_c => ?_)
  obtain ⟨v_c, m_c, f_c⟩ := a0
  refine z_iload X 5 dL_undone_314 rfl ?_
  refine z_bipush X (22 : Int32) dL_undone_316 (by decide) ?_
  refine z_iremG (F := some ()) (o := ()) X dL_undone_318 (by unfold grd; rw [if_pos (by decide)]) (fun _ => ?_)
  refine z_bipush X (11 : Int32) dL_undone_319 (by decide) ?_
  by_cases h11 : (11 : Int32) ≤ rmI a5 22
  · refine z_icmp_ge (F1 := some ()) (F2 := some ()) (o := ()) X 330 dL_undone_321 (by decide) (by unfold brn; split <;> rfl) (fun _ _ => ?_) (fun hh _ => absurd h11 hh)
    refine z_sbn hfl X hK hA dL_undone_330 dL_undone_333 dL_undone_334 (by omega) (by omega) (by omega) (by omega) (fun _ => (Nat.le_of_ble_eq_true rfl)) (fun q2 a0 ok_e => ?_)
    obtain ⟨v_e, m_e, f_e⟩ := a0
    refine z_ldcT (si := 7) X hK (by decide) rfl dL_undone_337 ?_
    refine z_sbS hfl X hA (sc := []) (HTX.fact hK hA (lit_TX hK (i := 7) (by decide))) (lit_TQ (i := 7) (by decide)) ok_e (by show 0 + 4 ≤ 34; omega) dL_undone_340 (by omega) (by omega) (by omega) (by omega) (Nat.le_of_ble_eq_true rfl) (fun a0 ok_f => ?_)
    obtain ⟨v_f, m_f, f_f⟩ := a0
    refine z_iload X 6 dL_undone_343 rfl ?_
    refine z_bipush X (16 : Int32) dL_undone_345 (by decide) ?_
    refine z_iremG (F := some ()) (o := ()) X dL_undone_347 (by unfold grd; rw [if_pos (by decide)]) (fun _ => ?_)
    refine z_sbI hfl X hK hA ok_f d2.2 (by show 0 + 4 + 2 ≤ 34; omega) d2.1 dL_undone_348 (by omega) (by omega) (by omega) (by omega) (Nat.le_of_ble_eq_true rfl) (fun a0 ok_g => ?_)
    obtain ⟨v_g, m_g, f_g⟩ := a0
    refine z_sbT hfl X hK hA ok_g dL_undone_351 (by omega) (by omega) (by omega) (by omega) (Nat.le_of_ble_eq_true rfl) (fun r6 v6 f6 ht6 hT6 => ?_)
    have em : unM a5 b6 = unB b6 := if_pos h11
    unfold unT at h
    rw [em] at h
    exact sg_undone_b (t1 := unA b6) (ty := unB b6) hfl X hK hA hf hl0 hT6 ht6 ok_c (by show 0 + 11 + dn (rmI b6 66).toNatClampNeg + (0 + 4 + dn (rmI b6 16).toNatClampNeg) ≤ 22; omega) d3 h (by omega) (by omega) (z_widen (by omega) (by omega) kk)
  · refine z_icmp_ge (F1 := some ()) (F2 := some ()) (o := ()) X 330 dL_undone_321 (by decide) (by unfold brn; split <;> rfl) (fun hh _ => absurd hh h11) (fun _ _ => ?_)
    refine z_ldcT (si := 3) X hK (by decide) rfl dL_undone_324 ?_
    refine z_goto X 354 dL_undone_327 (by decide) ?_
    have em : unM a5 b6 = tB 3 := if_neg h11
    unfold unT at h
    rw [em] at h
    exact sg_undone_b (scy := []) (t1 := unA b6) (ty := tB 3) hfl X hK hA hf hl0 (HTX.fact hK hA (lit_TX hK (i := 3) (by decide))) (lit_TQ (i := 3) (by decide)) ok_c (by show 0 + 11 + dn (rmI b6 66).toNatClampNeg + 0 ≤ 22; omega) d3 h (by omega) (by omega) (z_widen (by omega) (by omega) kk)
end SGL
