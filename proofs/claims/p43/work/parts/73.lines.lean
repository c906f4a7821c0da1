def L_L_lines_291 (a_bl : Nat → Int32) : Nat → Int32 → Int32 → (XVal) → Option (Int32 × XVal)
  | 0, _, _, _ => none
  | _n + 1, x2, x3, x =>
    brn (x2 ≤ x3) (bnd (F_L_line (8 : Int32) x) (fun o4 => brn (o4.1 = ((-12) : Int32)) (bnd (F_L_line ((-1) : Int32) o4.2) (fun o7 => brn (o7.1 = ((-12) : Int32)) (bnd (F_L_houseLine x2 o7.2) (fun o10 => brn (o10.1 = ((-11) : Int32)) (bnd (G_account (3 : Int32) o10.2) (fun o13 => grd (o13.1 = 0) (brn (o13.2.1 = (3 : Int32)) (some ((1 : Int32), o10.2)) (none)))) (none))) (none))) (none))) (bnd (F_sg_lines x3 x) (fun o16 => brn (o16.1 = 0) (none) (L_L_lines_291 a_bl _n x2 (x3 + 1) o16.2)))

def J_L_lines_268 (a_bl : Nat → Int32) (r8 : Int32 → Int32 → (XVal) → Option (Int32 × XVal)) (r29 : Int32 → Int32 → Int32 → (XVal) → Option (Int32 × XVal)) (t0 : Int32) (x2 : Int32) (x3 : Int32) (x4 : Int32) (x : XVal) : Option (Int32 × XVal) :=
  brn (t0 = 0) (none) (r29 x2 x3 (x4 + 1) x)

def J_L_lines_263 (a_bl : Nat → Int32) (r8 : Int32 → Int32 → (XVal) → Option (Int32 × XVal)) (r29 : Int32 → Int32 → Int32 → (XVal) → Option (Int32 × XVal)) (x2 : Int32) (x3 : Int32) (x4 : Int32) (x : XVal) : Option (Int32 × XVal) :=
  J_L_lines_268 a_bl (r8) (r29) (1 : Int32) x2 x3 x4 x

def J_L_lines_229 (a_bl : Nat → Int32) (r8 : Int32 → Int32 → (XVal) → Option (Int32 × XVal)) (r29 : Int32 → Int32 → Int32 → (XVal) → Option (Int32 × XVal)) (x2 : Int32) (x3 : Int32) (x4 : Int32) (x8 : Int32) (x : XVal) : Option (Int32 × XVal) :=
  brn (x3 ≤ (2 : Int32)) (brn (x8 = (95 : Int32)) (J_L_lines_263 a_bl (r8) (r29) x2 x3 x4 x) (brn (x8 = (46 : Int32)) (J_L_lines_263 a_bl (r8) (r29) x2 x3 x4 x) (J_L_lines_268 a_bl (r8) (r29) (0 : Int32) x2 x3 x4 x))) (brn (x8 = (46 : Int32)) (J_L_lines_268 a_bl (r8) (r29) (1 : Int32) x2 x3 x4 x) (J_L_lines_268 a_bl (r8) (r29) (0 : Int32) x2 x3 x4 x))

def J_L_lines_122 (a_bl : Nat → Int32) (r8 : Int32 → Int32 → (XVal) → Option (Int32 × XVal)) (r29 : Int32 → Int32 → Int32 → (XVal) → Option (Int32 × XVal)) (r90 : Int32 → Int32 → Int32 → Int32 → Int32 → Int32 → Int32 → (XVal) → Option (Int32 × XVal)) (t0 : Int32) (x2 : Int32) (x3 : Int32) (x4 : Int32) (x5 : Int32) (x6 : Int32) (x8 : Int32) (x : XVal) : Option (Int32 × XVal) :=
  r90 x2 x3 x4 x5 x6 t0 (x8 + 1) x

def J_L_lines_117 (a_bl : Nat → Int32) (r8 : Int32 → Int32 → (XVal) → Option (Int32 × XVal)) (r29 : Int32 → Int32 → Int32 → (XVal) → Option (Int32 × XVal)) (r90 : Int32 → Int32 → Int32 → Int32 → Int32 → Int32 → Int32 → (XVal) → Option (Int32 × XVal)) (x2 : Int32) (x3 : Int32) (x4 : Int32) (x5 : Int32) (x6 : Int32) (x8 : Int32) (x : XVal) : Option (Int32 × XVal) :=
  J_L_lines_122 a_bl (r8) (r29) (r90) (1 : Int32) x2 x3 x4 x5 x6 x8 x

def L_L_lines_90 (a_bl : Nat → Int32) (r8 : Int32 → Int32 → (XVal) → Option (Int32 × XVal)) (r29 : Int32 → Int32 → Int32 → (XVal) → Option (Int32 × XVal)) : Nat → Int32 → Int32 → Int32 → Int32 → Int32 → Int32 → Int32 → (XVal) → Option (Int32 × XVal)
  | 0, _, _, _, _, _, _, _, _ => none
  | _n + 1, x2, x3, x4, x5, x6, x7, x8, x =>
    bnd (G_account (4 : Int32) x) (fun o21 => grd (o21.1 = 0) (brn (o21.2.1 ≤ x8) (bnd (F_L_character x4 x) (fun o24 => brn (x6 < 0) (grd (inb x5 64) (brn ((a_bl x5.toNatClampNeg) = 0) (brn (x7 = 0) (brn ((3 : Int32) ≤ x3) (J_L_lines_229 a_bl (r8) (r29) x2 x3 x4 o24 x) (brn (x4 = (4 : Int32)) (brn (o24 = (95 : Int32)) (J_L_lines_268 a_bl (r8) (r29) (1 : Int32) x2 x3 x4 x) (J_L_lines_268 a_bl (r8) (r29) (0 : Int32) x2 x3 x4 x)) (J_L_lines_229 a_bl (r8) (r29) x2 x3 x4 o24 x))) (brn (o24 = (111 : Int32)) (J_L_lines_268 a_bl (r8) (r29) (1 : Int32) x2 x3 x4 x) (J_L_lines_268 a_bl (r8) (r29) (0 : Int32) x2 x3 x4 x))) (brn (o24 = (35 : Int32)) (J_L_lines_268 a_bl (r8) (r29) (1 : Int32) x2 x3 x4 x) (J_L_lines_268 a_bl (r8) (r29) (0 : Int32) x2 x3 x4 x)))) (brn (o24 = ((48 : Int32) + x6)) (J_L_lines_268 a_bl (r8) (r29) (1 : Int32) x2 x3 x4 x) (J_L_lines_268 a_bl (r8) (r29) (0 : Int32) x2 x3 x4 x)))) (brn (x7 = 0) (bnd (F_L_postOf x8 (0 : Int32) x) (fun o27 => brn (o27 = x5) (J_L_lines_117 a_bl (r8) (r29) (L_L_lines_90 a_bl r8 r29 _n) x2 x3 x4 x5 x6 x8 x) (J_L_lines_122 a_bl (r8) (r29) (L_L_lines_90 a_bl r8 r29 _n) (0 : Int32) x2 x3 x4 x5 x6 x8 x))) (J_L_lines_117 a_bl (r8) (r29) (L_L_lines_90 a_bl r8 r29 _n) x2 x3 x4 x5 x6 x8 x))))

def J_L_lines_79 (a_bl : Nat → Int32) (r8 : Int32 → Int32 → (XVal) → Option (Int32 × XVal)) (r29 : Int32 → Int32 → Int32 → (XVal) → Option (Int32 × XVal)) (r54 : Int32 → Int32 → Int32 → Int32 → Int32 → Int32 → Int32 → (XVal) → Option (Int32 × XVal)) (t0 : Int32) (x2 : Int32) (x3 : Int32) (x4 : Int32) (x5 : Int32) (x7 : Int32) (x8 : Int32) (x : XVal) : Option (Int32 × XVal) :=
  r54 x2 x3 x4 x5 t0 x7 (x8 + 1) x

def L_L_lines_54 (a_bl : Nat → Int32) (r8 : Int32 → Int32 → (XVal) → Option (Int32 × XVal)) (r29 : Int32 → Int32 → Int32 → (XVal) → Option (Int32 × XVal)) : Nat → Int32 → Int32 → Int32 → Int32 → Int32 → Int32 → Int32 → (XVal) → Option (Int32 × XVal)
  | 0, _, _, _, _, _, _, _, _ => none
  | _n + 1, x2, x3, x4, x5, x6, x7, x8, x =>
    brn (x2 ≤ x8) (L_L_lines_90 a_bl (r8) (r29) 5 x2 x3 x4 x5 x6 x7 (0 : Int32) x) (bnd (F_L_of x8 (0 : Int32) x) (fun o30 => brn (o30 = x5) (J_L_lines_79 a_bl (r8) (r29) (L_L_lines_54 a_bl r8 r29 _n) x8 x2 x3 x4 x5 x7 x8 x) (J_L_lines_79 a_bl (r8) (r29) (L_L_lines_54 a_bl r8 r29 _n) x6 x2 x3 x4 x5 x7 x8 x)))

def L_L_lines_29 (a_bl : Nat → Int32) (r8 : Int32 → Int32 → (XVal) → Option (Int32 × XVal)) : Nat → Int32 → Int32 → Int32 → (XVal) → Option (Int32 × XVal)
  | 0, _, _, _, _ => none
  | _n + 1, x2, x3, x4, x =>
    brn ((8 : Int32) ≤ x4) (r8 x2 (x3 + 1) x) (L_L_lines_54 a_bl (r8) (L_L_lines_29 a_bl r8 _n) 11 x2 x3 x4 (((8 : Int32) * x3) + x4) ((-1) : Int32) (0 : Int32) (0 : Int32) x)

def L_L_lines_8 (a_bl : Nat → Int32) : Nat → Int32 → Int32 → (XVal) → Option (Int32 × XVal)
  | 0, _, _, _ => none
  | _n + 1, x2, x3, x =>
    brn ((8 : Int32) ≤ x3) (L_L_lines_291 a_bl 11 x2 (0 : Int32) x) (bnd (F_L_line x3 x) (fun o18 => brn (o18.1 = (8 : Int32)) (L_L_lines_29 a_bl (L_L_lines_8 a_bl _n) 9 x2 x3 (0 : Int32) o18.2) (none)))

def F_L_lines (a_bl : Nat → Int32) (x : XVal) : Option (Int32 × XVal) :=
  bnd (G_account (2 : Int32) x) (fun o1 => grd (o1.1 = 0) (L_L_lines_8 a_bl 9 o1.2.1 (0 : Int32) x))

theorem k_L_lines : cardS yL_lines (Cond.code yL_lines cL_lines 10 (some .boolean)) 2 := ⟨qs_L_lines, qc_L_lines, qn_L, by decide +kernel, by decide +kernel, by decide +kernel⟩
set_option maxHeartbeats 4000000 in
set_option maxRecDepth 100000 in
theorem c_L_lines (l : Launch) (hfl : l.stackTraces = false) (ev : LEv) (D : va_G) (g : Nat → ClassId) (ad : Nat → Nat → Nat) (ax : Nat → Nat) (q_bl : Nat) (x : XVal) (a_bl : Nat → Int32) (o : Int32 × XVal) (h : F_L_lines a_bl x = some o) : MG l yL_lines (Cond.code yL_lines cL_lines 10 (some .boolean)) { frames := 16, cells := 4487, slots := 31982, locals := 400 } (KF ev) D g [.ref (ax 0), .ref q_bl] ([(q_bl, .inl (g 3, 64, .inl a_bl))] ++ OW g ax ad x) (some (.int o.1)) ([(q_bl, .inl (g 3, 64, .inl a_bl))] ++ OW g ax ad o.2) 4487 31982 := by
  refine z_g_start (by decide) (Nat.le_of_ble_eq_true rfl) ?_
  intro p e s m args below meth c Q A X hr hK hA hQ
  refine z_lv (lv' := [(0, .ref (ax 0)), (1, .ref q_bl)]) rfl ?_
  have H291 : ∀ (n : Nat) (x2 : Int32) (x3 : Int32) (x : XVal) (c291 s291 : Nat), c291 + 90 * n ≤ 4483 → s291 + 1000 * n ≤ 31958 → L_L_lines_291 a_bl n x2 x3 x = some o → Z p l e { frames := 16, cells := 4487, slots := 31982, locals := 400 } s m args below meth c Q 10 c291 s291 (IW D A s ([(q_bl, .inl (g 3, 64, .inl a_bl))] ++ OW g ax ad x)) 291 [(0, .ref (ax 0)), (1, .ref q_bl), (2, .int x2), (3, .int x3)] [] := by
    intro n
    induction n with
    | zero => intro x2 x3 x c291 s291 _ _ h; cases h
    | succ n291 ih291 =>
      intro x2 x3 x c291 s291 hc291 hs291 h
      refine z_iload_n X 3 dL_lines_291 rfl rfl ?_
      refine z_iload_n X 2 dL_lines_292 rfl rfl ?_
      refine z_icmp_ge X 455 dL_lines_293 (by decide) h (fun _ h => ?_) (fun _ h => ?_)
      · refine z_widen (k := 4483) (n := 31958) (by omega) (by omega) ?_
        refine z_aload_n X 0 dL_lines_455 rfl rfl ?_
        refine z_bipush X (8 : Int32) dL_lines_456 (by decide) ?_
        obtain ⟨o4, e5, h⟩ := bnd_p h
        have f6 := bk_appP (X := OW g ax ad x) (X' := OW g ax ad o4.2) (perm_of (n := 1) (E := [(q_bl, .inl (g 3, 64, .inl a_bl))]) (wc := []) (wr := [(q_bl, .inl (g 3, 64, .inl a_bl))]) [] [0] rfl rfl rfl (by decide +kernel)) (perm_of (n := 1) (E := [(q_bl, .inl (g 3, 64, .inl a_bl))]) (wc := []) (wr := [(q_bl, .inl (g 3, 64, .inl a_bl))]) [] [0] rfl rfl rfl (by decide +kernel)) rfl OW_fst
        refine z_gSH (rest := []) (ws' := ([(q_bl, .inl (g 3, 64, .inl a_bl))] ++ OW g ax ad o4.2)) X (KF_ok ev) (kc_of (KF_ok ev) (fun _ _ _ q => q) hK hA f6.1) hA k_L_line (c_L_line l hfl ev D g ad ax (8 : Int32) x o4 e5) ql_L_L_line dL_lines_458 f6.1 f6.2 rfl rfl ⟨Nat.le_of_ble_eq_true rfl, Nat.le_of_ble_eq_true rfl, rfl, rfl, (Nat.le_trans (m := 4487) (by first | exact Nat.le_of_ble_eq_true rfl | omega) (Nat.le_of_ble_eq_true rfl)), (Nat.le_trans (m := 31982) (by first | exact Nat.le_of_ble_eq_true rfl | omega) (Nat.le_of_ble_eq_true rfl))⟩ (Nat.le_of_ble_eq_true rfl) ?_
        refine z_bipush X ((-12) : Int32) dL_lines_461 (by decide) ?_
        refine z_icmp_ne X 499 dL_lines_463 (by decide) h (fun _ h => ?_) (fun _ h => ?_)
        · refine z_aload_n X 0 dL_lines_466 rfl rfl ?_
          refine z_iconst X ((-1) : Int32) dL_lines_467 (by decide) ?_
          obtain ⟨o7, e8, h⟩ := bnd_p h
          have f9 := bk_appP (X := OW g ax ad o4.2) (X' := OW g ax ad o7.2) (perm_of (n := 1) (E := [(q_bl, .inl (g 3, 64, .inl a_bl))]) (wc := []) (wr := [(q_bl, .inl (g 3, 64, .inl a_bl))]) [] [0] rfl rfl rfl (by decide +kernel)) (perm_of (n := 1) (E := [(q_bl, .inl (g 3, 64, .inl a_bl))]) (wc := []) (wr := [(q_bl, .inl (g 3, 64, .inl a_bl))]) [] [0] rfl rfl rfl (by decide +kernel)) rfl OW_fst
          refine z_gSH (rest := []) (ws' := ([(q_bl, .inl (g 3, 64, .inl a_bl))] ++ OW g ax ad o7.2)) X (KF_ok ev) (kc_of (KF_ok ev) (fun _ _ _ q => q) hK hA f9.1) hA k_L_line (c_L_line l hfl ev D g ad ax ((-1) : Int32) o4.2 o7 e8) ql_L_L_line dL_lines_468 f9.1 f9.2 rfl rfl ⟨Nat.le_of_ble_eq_true rfl, Nat.le_of_ble_eq_true rfl, rfl, rfl, (Nat.le_trans (m := 4487) (by first | exact Nat.le_of_ble_eq_true rfl | omega) (Nat.le_of_ble_eq_true rfl)), (Nat.le_trans (m := 31982) (by first | exact Nat.le_of_ble_eq_true rfl | omega) (Nat.le_of_ble_eq_true rfl))⟩ (Nat.le_of_ble_eq_true rfl) ?_
          refine z_bipush X ((-12) : Int32) dL_lines_471 (by decide) ?_
          refine z_icmp_ne X 499 dL_lines_473 (by decide) h (fun _ h => ?_) (fun _ h => ?_)
          · refine z_aload_n X 0 dL_lines_476 rfl rfl ?_
            refine z_iload_n X 2 dL_lines_477 rfl rfl ?_
            obtain ⟨o10, e11, h⟩ := bnd_p h
            have f12 := bk_appP (X := OW g ax ad o7.2) (X' := OW g ax ad o10.2) (perm_of (n := 1) (E := [(q_bl, .inl (g 3, 64, .inl a_bl))]) (wc := []) (wr := [(q_bl, .inl (g 3, 64, .inl a_bl))]) [] [0] rfl rfl rfl (by decide +kernel)) (perm_of (n := 1) (E := [(q_bl, .inl (g 3, 64, .inl a_bl))]) (wc := []) (wr := [(q_bl, .inl (g 3, 64, .inl a_bl))]) [] [0] rfl rfl rfl (by decide +kernel)) rfl OW_fst
            refine z_gSH (rest := []) (ws' := ([(q_bl, .inl (g 3, 64, .inl a_bl))] ++ OW g ax ad o10.2)) X (KF_ok ev) (kc_of (KF_ok ev) (fun _ _ _ q => q) hK hA f12.1) hA k_L_houseLine (c_L_houseLine l hfl ev D g ad ax x2 o7.2 o10 e11) ql_L_L_houseLine dL_lines_478 f12.1 f12.2 rfl rfl ⟨Nat.le_of_ble_eq_true rfl, Nat.le_of_ble_eq_true rfl, rfl, rfl, (Nat.le_trans (m := 4487) (by first | exact Nat.le_of_ble_eq_true rfl | omega) (Nat.le_of_ble_eq_true rfl)), (Nat.le_trans (m := 31982) (by first | exact Nat.le_of_ble_eq_true rfl | omega) (Nat.le_of_ble_eq_true rfl))⟩ (Nat.le_of_ble_eq_true rfl) ?_
            refine z_bipush X ((-11) : Int32) dL_lines_481 (by decide) ?_
            refine z_icmp_ne X 499 dL_lines_483 (by decide) h (fun _ h => ?_) (fun _ h => ?_)
            · refine z_aload_n X 0 dL_lines_486 rfl rfl ?_
              refine z_iconst X (3 : Int32) dL_lines_487 (by decide) ?_
              obtain ⟨o13, e14, h⟩ := bnd_p h
              obtain ⟨hz15, h⟩ := grd_p h
              obtain ⟨wco13, wdo13, hNo13, bo13, do13, xo13⟩ := nx_account l hfl ev.ak ev.av ev.aS D g ad ax (3 : Int32) o10.2 o13.1 o13.2.1 o13.2.2 e14
              rw [xo13] at do13
              have fo13 := bk_E (E := [(q_bl, .inl (g 3, 64, .inl a_bl))]) bo13 do13
              refine z_exV (rest := []) (q0 := 1) (ci := 11) (ws' := ([(q_bl, .inl (g 3, 64, .inl a_bl))] ++ OW g ax ad o10.2)) X hK.1 hA k_X11_account hNo13 ql_L_X11_account dL_lines_488 fo13.1 fo13.2 rfl rfl rfl rfl rfl ⟨Nat.le_of_ble_eq_true rfl, Nat.le_of_ble_eq_true rfl, rfl, rfl, (Nat.le_trans (m := 4487) (by first | exact Nat.le_of_ble_eq_true rfl | omega) (Nat.le_of_ble_eq_true rfl)), (Nat.le_trans (m := 31982) (by first | exact Nat.le_of_ble_eq_true rfl | omega) (Nat.le_of_ble_eq_true rfl))⟩ (Nat.le_of_ble_eq_true rfl) (fun _ => ?_) (fun q => absurd hz15 q)
              refine z_iconst X (3 : Int32) dL_lines_491 (by decide) ?_
              refine z_icmp_ne X 499 dL_lines_492 (by decide) h (fun _ h => ?_) (fun _ h => ?_)
              · refine z_iconst X (1 : Int32) dL_lines_495 (by decide) ?_
                refine z_goto X 500 dL_lines_496 (by decide) ?_
                cases h
                exact z_lzret X hQ (by first | exact Nat.le_of_ble_eq_true rfl | omega) (by first | exact Nat.le_of_ble_eq_true rfl | omega) hr dL_lines_500 rfl
              · cases h
            · cases h
          · cases h
        · cases h
      · refine z_sub [0, 1, 2, 3] rfl ?_
        obtain ⟨o16, e17, h⟩ := bnd_p h
        refine z_perm (ws' := OW g ax ad x ++ [(q_bl, .inl (g 3, 64, .inl a_bl))]) List.perm_append_comm ?_
        refine sg_lines hfl X hK hA (Nat.le_of_ble_eq_true rfl) (Nat.le_of_ble_eq_true rfl) (by decide) e17 (by refine Nat.le_trans (m := 4487) ?_ (Nat.le_of_ble_eq_true rfl); first | exact Nat.le_of_ble_eq_true rfl | omega) (by refine Nat.le_trans (m := 31982) ?_ (Nat.le_of_ble_eq_true rfl); first | exact Nat.le_of_ble_eq_true rfl | omega) ?_
        refine z_perm (ws' := ([(q_bl, .inl (g 3, 64, .inl a_bl))] ++ OW g ax ad o16.2)) List.perm_append_comm ?_
        refine z_if_ne X 449 dL_lines_444 (by decide) h (fun _ h => ?_) (fun _ h => ?_)
        · cases h
        · refine z_iinc X 3 [(3, .int (x3 + 1)), (0, .ref (ax 0)), (1, .ref q_bl), (2, .int x2)] dL_lines_449 rfl rfl (by decide) rfl ?_
          refine z_goto X 291 dL_lines_452 (by decide) ?_
          refine z_sub (lv' := [(0, .ref (ax 0)), (1, .ref q_bl), (2, .int x2), (3, .int (x3 + 1))]) [1, 2, 3, 0] rfl ?_
          exact ih291 x2 (x3 + 1) o16.2 _ _ (by omega) (by omega) h
  have H8 : ∀ (n : Nat) (x2 : Int32) (x3 : Int32) (x : XVal) (c8 s8 : Nat), c8 + 388 * n ≤ 3493 → s8 + 2328 * n ≤ 20958 → L_L_lines_8 a_bl n x2 x3 x = some o → Z p l e { frames := 16, cells := 4487, slots := 31982, locals := 400 } s m args below meth c Q 10 c8 s8 (IW D A s ([(q_bl, .inl (g 3, 64, .inl a_bl))] ++ OW g ax ad x)) 8 [(0, .ref (ax 0)), (1, .ref q_bl), (2, .int x2), (3, .int x3)] [] := by
    intro n
    induction n with
    | zero => intro x2 x3 x c8 s8 _ _ h; cases h
    | succ n8 ih8 =>
      intro x2 x3 x c8 s8 hc8 hs8 h
      have H29 : ∀ (n : Nat) (x2 : Int32) (x3 : Int32) (x4 : Int32) (x : XVal) (c29 s29 : Nat), c29 + 43 * n ≤ (c8 + 388) → s29 + 258 * n ≤ (s8 + 2328) → L_L_lines_29 a_bl (L_L_lines_8 a_bl n8) n x2 x3 x4 x = some o → Z p l e { frames := 16, cells := 4487, slots := 31982, locals := 400 } s m args below meth c Q 10 c29 s29 (IW D A s ([(q_bl, .inl (g 3, 64, .inl a_bl))] ++ OW g ax ad x)) 29 [(0, .ref (ax 0)), (1, .ref q_bl), (2, .int x2), (3, .int x3), (4, .int x4)] [] := by
        intro n
        induction n with
        | zero => intro x2 x3 x4 x c29 s29 _ _ h; cases h
        | succ n29 ih29 =>
          intro x2 x3 x4 x c29 s29 hc29 hs29 h
          have H268 : ∀ (t0 : Int32) (x2 : Int32) (x3 : Int32) (x4 : Int32) (x : XVal), J_L_lines_268 a_bl (L_L_lines_8 a_bl n8) (L_L_lines_29 a_bl (L_L_lines_8 a_bl n8) n29) t0 x2 x3 x4 x = some o → Z p l e { frames := 16, cells := 4487, slots := 31982, locals := 400 } s m args below meth c Q 10 (c29 + 43) (s29 + 258) (IW D A s ([(q_bl, .inl (g 3, 64, .inl a_bl))] ++ OW g ax ad x)) 268 [(0, .ref (ax 0)), (1, .ref q_bl), (2, .int x2), (3, .int x3), (4, .int x4)] [.int t0] := by
            intro t0 x2 x3 x4 x h
            refine z_istore X [(9, .int t0), (0, .ref (ax 0)), (1, .ref q_bl), (2, .int x2), (3, .int x3), (4, .int x4)] dL_lines_268 (by decide) rfl ?_
            refine z_iload X 0 dL_lines_270 rfl ?_
            refine z_if_ne X 277 dL_lines_272 (by decide) h (fun _ h => ?_) (fun _ h => ?_)
            · cases h
            · refine z_iinc X 5 [(4, .int (x4 + 1)), (9, .int t0), (0, .ref (ax 0)), (1, .ref q_bl), (2, .int x2), (3, .int x3)] dL_lines_277 rfl rfl (by decide) rfl ?_
              refine z_goto X 29 dL_lines_280 (by decide) ?_
              refine z_sub (lv' := [(0, .ref (ax 0)), (1, .ref q_bl), (2, .int x2), (3, .int x3), (4, .int (x4 + 1))]) [2, 3, 4, 5, 0] rfl ?_
              exact ih29 x2 x3 (x4 + 1) x _ _ (by omega) (by omega) h
          have H263 : ∀ (x2 : Int32) (x3 : Int32) (x4 : Int32) (x : XVal), J_L_lines_263 a_bl (L_L_lines_8 a_bl n8) (L_L_lines_29 a_bl (L_L_lines_8 a_bl n8) n29) x2 x3 x4 x = some o → Z p l e { frames := 16, cells := 4487, slots := 31982, locals := 400 } s m args below meth c Q 10 (c29 + 43) (s29 + 258) (IW D A s ([(q_bl, .inl (g 3, 64, .inl a_bl))] ++ OW g ax ad x)) 263 [(0, .ref (ax 0)), (1, .ref q_bl), (2, .int x2), (3, .int x3), (4, .int x4)] [] := by
            intro x2 x3 x4 x h
            refine z_iconst X (1 : Int32) dL_lines_263 (by decide) ?_
            refine z_goto X 268 dL_lines_264 (by decide) ?_
            refine z_widen (k := (c29 + 43)) (n := (s29 + 258)) (by first | exact Nat.le_of_ble_eq_true rfl | omega) (by first | exact Nat.le_of_ble_eq_true rfl | omega) ?_
            exact H268 (1 : Int32) x2 x3 x4 x h
          have H229 : ∀ (x2 : Int32) (x3 : Int32) (x4 : Int32) (x8 : Int32) (x : XVal), J_L_lines_229 a_bl (L_L_lines_8 a_bl n8) (L_L_lines_29 a_bl (L_L_lines_8 a_bl n8) n29) x2 x3 x4 x8 x = some o → Z p l e { frames := 16, cells := 4487, slots := 31982, locals := 400 } s m args below meth c Q 10 (c29 + 43) (s29 + 258) (IW D A s ([(q_bl, .inl (g 3, 64, .inl a_bl))] ++ OW g ax ad x)) 229 [(0, .ref (ax 0)), (1, .ref q_bl), (2, .int x2), (3, .int x3), (4, .int x4), (8, .int x8)] [] := by
            intro x2 x3 x4 x8 x h
            refine z_iload_n X 3 dL_lines_229 rfl rfl ?_
            refine z_iconst X (2 : Int32) dL_lines_230 (by decide) ?_
            refine z_icmp_le X 249 dL_lines_231 (by decide) h (fun _ h => ?_) (fun _ h => ?_)
            · refine z_iload X 5 dL_lines_249 rfl ?_
              refine z_bipush X (95 : Int32) dL_lines_251 (by decide) ?_
              refine z_icmp_eq X 263 dL_lines_253 (by decide) h (fun _ h => ?_) (fun _ h => ?_)
              · refine z_widen (k := (c29 + 43)) (n := (s29 + 258)) (by first | exact Nat.le_of_ble_eq_true rfl | omega) (by first | exact Nat.le_of_ble_eq_true rfl | omega) ?_
                refine z_sub (lv' := [(0, .ref (ax 0)), (1, .ref q_bl), (2, .int x2), (3, .int x3), (4, .int x4)]) [0, 1, 2, 3, 4] rfl ?_
                exact H263 x2 x3 x4 x h
              · refine z_iload X 5 dL_lines_256 rfl ?_
                refine z_bipush X (46 : Int32) dL_lines_258 (by decide) ?_
                refine z_icmp_ne X 267 dL_lines_260 (by decide) h (fun _ h => ?_) (fun _ h => ?_)
                · refine z_widen (k := (c29 + 43)) (n := (s29 + 258)) (by first | exact Nat.le_of_ble_eq_true rfl | omega) (by first | exact Nat.le_of_ble_eq_true rfl | omega) ?_
                  refine z_sub (lv' := [(0, .ref (ax 0)), (1, .ref q_bl), (2, .int x2), (3, .int x3), (4, .int x4)]) [0, 1, 2, 3, 4] rfl ?_
                  exact H263 x2 x3 x4 x h
                · refine z_iconst X (0 : Int32) dL_lines_267 (by decide) ?_
                  refine z_widen (k := (c29 + 43)) (n := (s29 + 258)) (by first | exact Nat.le_of_ble_eq_true rfl | omega) (by first | exact Nat.le_of_ble_eq_true rfl | omega) ?_
                  refine z_sub (lv' := [(0, .ref (ax 0)), (1, .ref q_bl), (2, .int x2), (3, .int x3), (4, .int x4)]) [0, 1, 2, 3, 4] rfl ?_
                  exact H268 (0 : Int32) x2 x3 x4 x h
            · refine z_iload X 5 dL_lines_234 rfl ?_
              refine z_bipush X (46 : Int32) dL_lines_236 (by decide) ?_
              refine z_icmp_ne X 245 dL_lines_238 (by decide) h (fun _ h => ?_) (fun _ h => ?_)
              · refine z_iconst X (1 : Int32) dL_lines_241 (by decide) ?_
                refine z_goto X 268 dL_lines_242 (by decide) ?_
                refine z_widen (k := (c29 + 43)) (n := (s29 + 258)) (by first | exact Nat.le_of_ble_eq_true rfl | omega) (by first | exact Nat.le_of_ble_eq_true rfl | omega) ?_
                refine z_sub (lv' := [(0, .ref (ax 0)), (1, .ref q_bl), (2, .int x2), (3, .int x3), (4, .int x4)]) [0, 1, 2, 3, 4] rfl ?_
                exact H268 (1 : Int32) x2 x3 x4 x h
              · refine z_iconst X (0 : Int32) dL_lines_245 (by decide) ?_
                refine z_goto X 268 dL_lines_246 (by decide) ?_
                refine z_widen (k := (c29 + 43)) (n := (s29 + 258)) (by first | exact Nat.le_of_ble_eq_true rfl | omega) (by first | exact Nat.le_of_ble_eq_true rfl | omega) ?_
                refine z_sub (lv' := [(0, .ref (ax 0)), (1, .ref q_bl), (2, .int x2), (3, .int x3), (4, .int x4)]) [0, 1, 2, 3, 4] rfl ?_
                exact H268 (0 : Int32) x2 x3 x4 x h
          have H90 : ∀ (n : Nat) (x2 : Int32) (x3 : Int32) (x4 : Int32) (x5 : Int32) (x6 : Int32) (x7 : Int32) (x8 : Int32) (x : XVal) (c90 s90 : Nat), c90 + 4 * n ≤ (c29 + 42) → s90 + 24 * n ≤ (s29 + 252) → L_L_lines_90 a_bl (L_L_lines_8 a_bl n8) (L_L_lines_29 a_bl (L_L_lines_8 a_bl n8) n29) n x2 x3 x4 x5 x6 x7 x8 x = some o → Z p l e { frames := 16, cells := 4487, slots := 31982, locals := 400 } s m args below meth c Q 10 c90 s90 (IW D A s ([(q_bl, .inl (g 3, 64, .inl a_bl))] ++ OW g ax ad x)) 90 [(0, .ref (ax 0)), (1, .ref q_bl), (2, .int x2), (3, .int x3), (4, .int x4), (5, .int x5), (6, .int x6), (7, .int x7), (8, .int x8)] [] := by
            intro n
            induction n with
            | zero => intro x2 x3 x4 x5 x6 x7 x8 x c90 s90 _ _ h; cases h
            | succ n90 ih90 =>
              intro x2 x3 x4 x5 x6 x7 x8 x c90 s90 hc90 hs90 h
              have H122 : ∀ (t0 : Int32) (x2 : Int32) (x3 : Int32) (x4 : Int32) (x5 : Int32) (x6 : Int32) (x8 : Int32) (x : XVal), J_L_lines_122 a_bl (L_L_lines_8 a_bl n8) (L_L_lines_29 a_bl (L_L_lines_8 a_bl n8) n29) (L_L_lines_90 a_bl (L_L_lines_8 a_bl n8) (L_L_lines_29 a_bl (L_L_lines_8 a_bl n8) n29) n90) t0 x2 x3 x4 x5 x6 x8 x = some o → Z p l e { frames := 16, cells := 4487, slots := 31982, locals := 400 } s m args below meth c Q 10 (c90 + 4) (s90 + 24) (IW D A s ([(q_bl, .inl (g 3, 64, .inl a_bl))] ++ OW g ax ad x)) 122 [(0, .ref (ax 0)), (1, .ref q_bl), (2, .int x2), (3, .int x3), (4, .int x4), (5, .int x5), (6, .int x6), (8, .int x8)] [.int t0] := by
                intro t0 x2 x3 x4 x5 x6 x8 x h
                refine z_istore X [(7, .int t0), (0, .ref (ax 0)), (1, .ref q_bl), (2, .int x2), (3, .int x3), (4, .int x4), (5, .int x5), (6, .int x6), (8, .int x8)] dL_lines_122 (by decide) rfl ?_
                refine z_iinc X 8 [(8, .int (x8 + 1)), (7, .int t0), (0, .ref (ax 0)), (1, .ref q_bl), (2, .int x2), (3, .int x3), (4, .int x4), (5, .int x5), (6, .int x6)] dL_lines_124 rfl rfl (by decide) rfl ?_
                refine z_goto X 90 dL_lines_127 (by decide) ?_
                refine z_sub (lv' := [(0, .ref (ax 0)), (1, .ref q_bl), (2, .int x2), (3, .int x3), (4, .int x4), (5, .int x5), (6, .int x6), (7, .int t0), (8, .int (x8 + 1))]) [2, 3, 4, 5, 6, 7, 8, 1, 0] rfl ?_
                exact ih90 x2 x3 x4 x5 x6 t0 (x8 + 1) x _ _ (by omega) (by omega) h
              have H117 : ∀ (x2 : Int32) (x3 : Int32) (x4 : Int32) (x5 : Int32) (x6 : Int32) (x8 : Int32) (x : XVal), J_L_lines_117 a_bl (L_L_lines_8 a_bl n8) (L_L_lines_29 a_bl (L_L_lines_8 a_bl n8) n29) (L_L_lines_90 a_bl (L_L_lines_8 a_bl n8) (L_L_lines_29 a_bl (L_L_lines_8 a_bl n8) n29) n90) x2 x3 x4 x5 x6 x8 x = some o → Z p l e { frames := 16, cells := 4487, slots := 31982, locals := 400 } s m args below meth c Q 10 (c90 + 4) (s90 + 24) (IW D A s ([(q_bl, .inl (g 3, 64, .inl a_bl))] ++ OW g ax ad x)) 117 [(0, .ref (ax 0)), (1, .ref q_bl), (2, .int x2), (3, .int x3), (4, .int x4), (5, .int x5), (6, .int x6), (8, .int x8)] [] := by
                intro x2 x3 x4 x5 x6 x8 x h
                refine z_iconst X (1 : Int32) dL_lines_117 (by decide) ?_
                refine z_goto X 122 dL_lines_118 (by decide) ?_
                refine z_widen (k := (c90 + 4)) (n := (s90 + 24)) (by first | exact Nat.le_of_ble_eq_true rfl | omega) (by first | exact Nat.le_of_ble_eq_true rfl | omega) ?_
                exact H122 (1 : Int32) x2 x3 x4 x5 x6 x8 x h
              refine z_iload X 8 dL_lines_90 rfl ?_
              refine z_aload_n X 0 dL_lines_92 rfl rfl ?_
              refine z_iconst X (4 : Int32) dL_lines_93 (by decide) ?_
              obtain ⟨o21, e22, h⟩ := bnd_p h
              obtain ⟨hz23, h⟩ := grd_p h
              obtain ⟨wco21, wdo21, hNo21, bo21, do21, xo21⟩ := nx_account l hfl ev.ak ev.av ev.aS D g ad ax (4 : Int32) x o21.1 o21.2.1 o21.2.2 e22
              rw [xo21] at do21
              have fo21 := bk_E (E := [(q_bl, .inl (g 3, 64, .inl a_bl))]) bo21 do21
              refine z_exV (rest := [.int x8]) (q0 := 1) (ci := 11) (ws' := ([(q_bl, .inl (g 3, 64, .inl a_bl))] ++ OW g ax ad x)) X hK.1 hA k_X11_account hNo21 ql_L_X11_account dL_lines_94 fo21.1 fo21.2 rfl rfl rfl rfl rfl ⟨Nat.le_of_ble_eq_true rfl, Nat.le_of_ble_eq_true rfl, rfl, rfl, (Nat.le_trans (m := 4487) (by first | exact Nat.le_of_ble_eq_true rfl | omega) (Nat.le_of_ble_eq_true rfl)), (Nat.le_trans (m := 31982) (by first | exact Nat.le_of_ble_eq_true rfl | omega) (Nat.le_of_ble_eq_true rfl))⟩ (Nat.le_of_ble_eq_true rfl) (fun _ => ?_) (fun q => absurd hz23 q)
              refine z_icmp_ge X 130 dL_lines_97 (by decide) h (fun _ h => ?_) (fun _ h => ?_)
              · refine z_widen (k := (c29 + 42)) (n := (s29 + 252)) (by omega) (by omega) ?_
                refine z_aload_n X 0 dL_lines_130 rfl rfl ?_
                refine z_iload X 4 dL_lines_131 rfl ?_
                obtain ⟨o24, e25, h⟩ := bnd_p h
                have f26 := bk_appP (X := OW g ax ad x) (X' := OW g ax ad x) (perm_of (n := 1) (E := [(q_bl, .inl (g 3, 64, .inl a_bl))]) (wc := []) (wr := [(q_bl, .inl (g 3, 64, .inl a_bl))]) [] [0] rfl rfl rfl (by decide +kernel)) (perm_of (n := 1) (E := [(q_bl, .inl (g 3, 64, .inl a_bl))]) (wc := []) (wr := [(q_bl, .inl (g 3, 64, .inl a_bl))]) [] [0] rfl rfl rfl (by decide +kernel)) rfl OW_fst
                refine z_gSH (rest := []) (ws' := ([(q_bl, .inl (g 3, 64, .inl a_bl))] ++ OW g ax ad x)) X (KF_ok ev) (kc_of (KF_ok ev) (fun _ _ _ q => q) hK hA f26.1) hA k_L_character (c_L_character l hfl ev D g ad ax x4 x o24 e25) ql_L_L_character dL_lines_133 f26.1 f26.2 rfl rfl ⟨Nat.le_of_ble_eq_true rfl, Nat.le_of_ble_eq_true rfl, rfl, rfl, (Nat.le_trans (m := 4487) (by first | exact Nat.le_of_ble_eq_true rfl | omega) (Nat.le_of_ble_eq_true rfl)), (Nat.le_trans (m := 31982) (by first | exact Nat.le_of_ble_eq_true rfl | omega) (Nat.le_of_ble_eq_true rfl))⟩ (Nat.le_of_ble_eq_true rfl) ?_
                refine z_istore X [(8, .int o24), (0, .ref (ax 0)), (1, .ref q_bl), (2, .int x2), (3, .int x3), (4, .int x4), (5, .int x5), (6, .int x6), (7, .int x7)] dL_lines_136 (by decide) rfl ?_
                refine z_iload X 7 dL_lines_138 rfl ?_
                refine z_if_lt X 161 dL_lines_140 (by decide) h (fun _ h => ?_) (fun _ h => ?_)
                · refine z_aload_n X 2 dL_lines_161 rfl rfl ?_
                  refine z_iload X 6 dL_lines_162 rfl ?_
                  refine z_zald (q0 := 0) X IW_P dL_lines_164 rfl h (fun h => ?_)
                  refine z_if_eq X 183 dL_lines_165 (by decide) h (fun _ h => ?_) (fun _ h => ?_)
                  · refine z_iload X 8 dL_lines_183 rfl ?_
                    refine z_if_eq X 203 dL_lines_185 (by decide) h (fun _ h => ?_) (fun _ h => ?_)
                    · refine z_iload_n X 4 dL_lines_203 rfl rfl ?_
                      refine z_iconst X (3 : Int32) dL_lines_204 (by decide) ?_
                      refine z_icmp_ge X 229 dL_lines_205 (by decide) h (fun _ h => ?_) (fun _ h => ?_)
                      · refine z_widen (k := (c29 + 43)) (n := (s29 + 258)) (by first | exact Nat.le_of_ble_eq_true rfl | omega) (by first | exact Nat.le_of_ble_eq_true rfl | omega) ?_
                        refine z_sub (lv' := [(0, .ref (ax 0)), (1, .ref q_bl), (2, .int x2), (3, .int x3), (4, .int x4), (8, .int o24)]) [1, 2, 3, 4, 5, 0] rfl ?_
                        exact H229 x2 x3 x4 o24 x h
                      · refine z_iload X 5 dL_lines_208 rfl ?_
                        refine z_iconst X (4 : Int32) dL_lines_210 (by decide) ?_
                        refine z_icmp_ne X 229 dL_lines_211 (by decide) h (fun _ h => ?_) (fun _ h => ?_)
                        · refine z_iload X 0 dL_lines_214 rfl ?_
                          refine z_bipush X (95 : Int32) dL_lines_216 (by decide) ?_
                          refine z_icmp_ne X 225 dL_lines_218 (by decide) h (fun _ h => ?_) (fun _ h => ?_)
                          · refine z_iconst X (1 : Int32) dL_lines_221 (by decide) ?_
                            refine z_goto X 268 dL_lines_222 (by decide) ?_
                            refine z_widen (k := (c29 + 43)) (n := (s29 + 258)) (by first | exact Nat.le_of_ble_eq_true rfl | omega) (by first | exact Nat.le_of_ble_eq_true rfl | omega) ?_
                            refine z_sub (lv' := [(0, .ref (ax 0)), (1, .ref q_bl), (2, .int x2), (3, .int x3), (4, .int x4)]) [1, 2, 3, 4, 5] rfl ?_
                            exact H268 (1 : Int32) x2 x3 x4 x h
                          · refine z_iconst X (0 : Int32) dL_lines_225 (by decide) ?_
                            refine z_goto X 268 dL_lines_226 (by decide) ?_
                            refine z_widen (k := (c29 + 43)) (n := (s29 + 258)) (by first | exact Nat.le_of_ble_eq_true rfl | omega) (by first | exact Nat.le_of_ble_eq_true rfl | omega) ?_
                            refine z_sub (lv' := [(0, .ref (ax 0)), (1, .ref q_bl), (2, .int x2), (3, .int x3), (4, .int x4)]) [1, 2, 3, 4, 5] rfl ?_
                            exact H268 (0 : Int32) x2 x3 x4 x h
                        · refine z_widen (k := (c29 + 43)) (n := (s29 + 258)) (by first | exact Nat.le_of_ble_eq_true rfl | omega) (by first | exact Nat.le_of_ble_eq_true rfl | omega) ?_
                          refine z_sub (lv' := [(0, .ref (ax 0)), (1, .ref q_bl), (2, .int x2), (3, .int x3), (4, .int x4), (8, .int o24)]) [1, 2, 3, 4, 5, 0] rfl ?_
                          exact H229 x2 x3 x4 o24 x h
                    · refine z_iload X 0 dL_lines_188 rfl ?_
                      refine z_bipush X (111 : Int32) dL_lines_190 (by decide) ?_
                      refine z_icmp_ne X 199 dL_lines_192 (by decide) h (fun _ h => ?_) (fun _ h => ?_)
                      · refine z_iconst X (1 : Int32) dL_lines_195 (by decide) ?_
                        refine z_goto X 268 dL_lines_196 (by decide) ?_
                        refine z_widen (k := (c29 + 43)) (n := (s29 + 258)) (by first | exact Nat.le_of_ble_eq_true rfl | omega) (by first | exact Nat.le_of_ble_eq_true rfl | omega) ?_
                        refine z_sub (lv' := [(0, .ref (ax 0)), (1, .ref q_bl), (2, .int x2), (3, .int x3), (4, .int x4)]) [1, 2, 3, 4, 5] rfl ?_
                        exact H268 (1 : Int32) x2 x3 x4 x h
                      · refine z_iconst X (0 : Int32) dL_lines_199 (by decide) ?_
                        refine z_goto X 268 dL_lines_200 (by decide) ?_
                        refine z_widen (k := (c29 + 43)) (n := (s29 + 258)) (by first | exact Nat.le_of_ble_eq_true rfl | omega) (by first | exact Nat.le_of_ble_eq_true rfl | omega) ?_
                        refine z_sub (lv' := [(0, .ref (ax 0)), (1, .ref q_bl), (2, .int x2), (3, .int x3), (4, .int x4)]) [1, 2, 3, 4, 5] rfl ?_
                        exact H268 (0 : Int32) x2 x3 x4 x h
                  · refine z_iload X 0 dL_lines_168 rfl ?_
                    refine z_bipush X (35 : Int32) dL_lines_170 (by decide) ?_
                    refine z_icmp_ne X 179 dL_lines_172 (by decide) h (fun _ h => ?_) (fun _ h => ?_)
                    · refine z_iconst X (1 : Int32) dL_lines_175 (by decide) ?_
                      refine z_goto X 268 dL_lines_176 (by decide) ?_
                      refine z_widen (k := (c29 + 43)) (n := (s29 + 258)) (by first | exact Nat.le_of_ble_eq_true rfl | omega) (by first | exact Nat.le_of_ble_eq_true rfl | omega) ?_
                      refine z_sub (lv' := [(0, .ref (ax 0)), (1, .ref q_bl), (2, .int x2), (3, .int x3), (4, .int x4)]) [1, 2, 3, 4, 5] rfl ?_
                      exact H268 (1 : Int32) x2 x3 x4 x h
                    · refine z_iconst X (0 : Int32) dL_lines_179 (by decide) ?_
                      refine z_goto X 268 dL_lines_180 (by decide) ?_
                      refine z_widen (k := (c29 + 43)) (n := (s29 + 258)) (by first | exact Nat.le_of_ble_eq_true rfl | omega) (by first | exact Nat.le_of_ble_eq_true rfl | omega) ?_
                      refine z_sub (lv' := [(0, .ref (ax 0)), (1, .ref q_bl), (2, .int x2), (3, .int x3), (4, .int x4)]) [1, 2, 3, 4, 5] rfl ?_
                      exact H268 (0 : Int32) x2 x3 x4 x h
                · refine z_iload X 0 dL_lines_143 rfl ?_
                  refine z_bipush X (48 : Int32) dL_lines_145 (by decide) ?_
                  refine z_iload X 7 dL_lines_147 rfl ?_
                  refine z_iadd X dL_lines_149 ?_
                  refine z_icmp_ne X 157 dL_lines_150 (by decide) h (fun _ h => ?_) (fun _ h => ?_)
                  · refine z_iconst X (1 : Int32) dL_lines_153 (by decide) ?_
                    refine z_goto X 268 dL_lines_154 (by decide) ?_
                    refine z_widen (k := (c29 + 43)) (n := (s29 + 258)) (by first | exact Nat.le_of_ble_eq_true rfl | omega) (by first | exact Nat.le_of_ble_eq_true rfl | omega) ?_
                    refine z_sub (lv' := [(0, .ref (ax 0)), (1, .ref q_bl), (2, .int x2), (3, .int x3), (4, .int x4)]) [1, 2, 3, 4, 5] rfl ?_
                    exact H268 (1 : Int32) x2 x3 x4 x h
                  · refine z_iconst X (0 : Int32) dL_lines_157 (by decide) ?_
                    refine z_goto X 268 dL_lines_158 (by decide) ?_
                    refine z_widen (k := (c29 + 43)) (n := (s29 + 258)) (by first | exact Nat.le_of_ble_eq_true rfl | omega) (by first | exact Nat.le_of_ble_eq_true rfl | omega) ?_
                    refine z_sub (lv' := [(0, .ref (ax 0)), (1, .ref q_bl), (2, .int x2), (3, .int x3), (4, .int x4)]) [1, 2, 3, 4, 5] rfl ?_
                    exact H268 (0 : Int32) x2 x3 x4 x h
              · refine z_iload X 7 dL_lines_100 rfl ?_
                refine z_if_ne X 117 dL_lines_102 (by decide) h (fun _ h => ?_) (fun _ h => ?_)
                · refine z_aload_n X 0 dL_lines_105 rfl rfl ?_
                  refine z_iload X 8 dL_lines_106 rfl ?_
                  refine z_iconst X (0 : Int32) dL_lines_108 (by decide) ?_
                  obtain ⟨o27, e28, h⟩ := bnd_p h
                  have f29 := bk_appP (X := OW g ax ad x) (X' := OW g ax ad x) (perm_of (n := 1) (E := [(q_bl, .inl (g 3, 64, .inl a_bl))]) (wc := []) (wr := [(q_bl, .inl (g 3, 64, .inl a_bl))]) [] [0] rfl rfl rfl (by decide +kernel)) (perm_of (n := 1) (E := [(q_bl, .inl (g 3, 64, .inl a_bl))]) (wc := []) (wr := [(q_bl, .inl (g 3, 64, .inl a_bl))]) [] [0] rfl rfl rfl (by decide +kernel)) rfl OW_fst
                  refine z_gSH (rest := []) (ws' := ([(q_bl, .inl (g 3, 64, .inl a_bl))] ++ OW g ax ad x)) X (KF_ok ev) (kc_of (KF_ok ev) (fun _ _ _ q => q) hK hA f29.1) hA k_L_postOf (c_L_postOf l hfl ev D g ad ax x8 (0 : Int32) x o27 e28) ql_L_L_postOf dL_lines_109 f29.1 f29.2 rfl rfl ⟨Nat.le_of_ble_eq_true rfl, Nat.le_of_ble_eq_true rfl, rfl, rfl, (Nat.le_trans (m := 4487) (by first | exact Nat.le_of_ble_eq_true rfl | omega) (Nat.le_of_ble_eq_true rfl)), (Nat.le_trans (m := 31982) (by first | exact Nat.le_of_ble_eq_true rfl | omega) (Nat.le_of_ble_eq_true rfl))⟩ (Nat.le_of_ble_eq_true rfl) ?_
                  refine z_iload X 5 dL_lines_112 rfl ?_
                  refine z_icmp_ne X 121 dL_lines_114 (by decide) h (fun _ h => ?_) (fun _ h => ?_)
                  · refine z_widen (k := (c90 + 4)) (n := (s90 + 24)) (by first | exact Nat.le_of_ble_eq_true rfl | omega) (by first | exact Nat.le_of_ble_eq_true rfl | omega) ?_
                    refine z_sub (lv' := [(0, .ref (ax 0)), (1, .ref q_bl), (2, .int x2), (3, .int x3), (4, .int x4), (5, .int x5), (6, .int x6), (8, .int x8)]) [0, 1, 2, 3, 4, 5, 6, 8] rfl ?_
                    exact H117 x2 x3 x4 x5 x6 x8 x h
                  · refine z_iconst X (0 : Int32) dL_lines_121 (by decide) ?_
                    refine z_widen (k := (c90 + 4)) (n := (s90 + 24)) (by first | exact Nat.le_of_ble_eq_true rfl | omega) (by first | exact Nat.le_of_ble_eq_true rfl | omega) ?_
                    refine z_sub (lv' := [(0, .ref (ax 0)), (1, .ref q_bl), (2, .int x2), (3, .int x3), (4, .int x4), (5, .int x5), (6, .int x6), (8, .int x8)]) [0, 1, 2, 3, 4, 5, 6, 8] rfl ?_
                    exact H122 (0 : Int32) x2 x3 x4 x5 x6 x8 x h
                · refine z_widen (k := (c90 + 4)) (n := (s90 + 24)) (by first | exact Nat.le_of_ble_eq_true rfl | omega) (by first | exact Nat.le_of_ble_eq_true rfl | omega) ?_
                  refine z_sub (lv' := [(0, .ref (ax 0)), (1, .ref q_bl), (2, .int x2), (3, .int x3), (4, .int x4), (5, .int x5), (6, .int x6), (8, .int x8)]) [0, 1, 2, 3, 4, 5, 6, 8] rfl ?_
                  exact H117 x2 x3 x4 x5 x6 x8 x h
          have H54 : ∀ (n : Nat) (x2 : Int32) (x3 : Int32) (x4 : Int32) (x5 : Int32) (x6 : Int32) (x7 : Int32) (x8 : Int32) (x : XVal) (c54 s54 : Nat), c54 + 2 * n ≤ (c29 + 22) → s54 + 12 * n ≤ (s29 + 132) → L_L_lines_54 a_bl (L_L_lines_8 a_bl n8) (L_L_lines_29 a_bl (L_L_lines_8 a_bl n8) n29) n x2 x3 x4 x5 x6 x7 x8 x = some o → Z p l e { frames := 16, cells := 4487, slots := 31982, locals := 400 } s m args below meth c Q 10 c54 s54 (IW D A s ([(q_bl, .inl (g 3, 64, .inl a_bl))] ++ OW g ax ad x)) 54 [(0, .ref (ax 0)), (1, .ref q_bl), (2, .int x2), (3, .int x3), (4, .int x4), (5, .int x5), (6, .int x6), (7, .int x7), (8, .int x8)] [] := by
            intro n
            induction n with
            | zero => intro x2 x3 x4 x5 x6 x7 x8 x c54 s54 _ _ h; cases h
            | succ n54 ih54 =>
              intro x2 x3 x4 x5 x6 x7 x8 x c54 s54 hc54 hs54 h
              have H79 : ∀ (t0 : Int32) (x2 : Int32) (x3 : Int32) (x4 : Int32) (x5 : Int32) (x7 : Int32) (x8 : Int32) (x : XVal), J_L_lines_79 a_bl (L_L_lines_8 a_bl n8) (L_L_lines_29 a_bl (L_L_lines_8 a_bl n8) n29) (L_L_lines_54 a_bl (L_L_lines_8 a_bl n8) (L_L_lines_29 a_bl (L_L_lines_8 a_bl n8) n29) n54) t0 x2 x3 x4 x5 x7 x8 x = some o → Z p l e { frames := 16, cells := 4487, slots := 31982, locals := 400 } s m args below meth c Q 10 (c54 + 2) (s54 + 12) (IW D A s ([(q_bl, .inl (g 3, 64, .inl a_bl))] ++ OW g ax ad x)) 79 [(0, .ref (ax 0)), (1, .ref q_bl), (2, .int x2), (3, .int x3), (4, .int x4), (5, .int x5), (7, .int x7), (8, .int x8)] [.int t0] := by
                intro t0 x2 x3 x4 x5 x7 x8 x h
                refine z_istore X [(6, .int t0), (0, .ref (ax 0)), (1, .ref q_bl), (2, .int x2), (3, .int x3), (4, .int x4), (5, .int x5), (7, .int x7), (8, .int x8)] dL_lines_79 (by decide) rfl ?_
                refine z_iinc X 8 [(8, .int (x8 + 1)), (6, .int t0), (0, .ref (ax 0)), (1, .ref q_bl), (2, .int x2), (3, .int x3), (4, .int x4), (5, .int x5), (7, .int x7)] dL_lines_81 rfl rfl (by decide) rfl ?_
                refine z_goto X 54 dL_lines_84 (by decide) ?_
                refine z_sub (lv' := [(0, .ref (ax 0)), (1, .ref q_bl), (2, .int x2), (3, .int x3), (4, .int x4), (5, .int x5), (6, .int t0), (7, .int x7), (8, .int (x8 + 1))]) [2, 3, 4, 5, 6, 7, 1, 8, 0] rfl ?_
                exact ih54 x2 x3 x4 x5 t0 x7 (x8 + 1) x _ _ (by omega) (by omega) h
              refine z_iload X 8 dL_lines_54 rfl ?_
              refine z_iload_n X 2 dL_lines_56 rfl rfl ?_
              refine z_icmp_ge X 87 dL_lines_57 (by decide) h (fun _ h => ?_) (fun _ h => ?_)
              · refine z_widen (k := (c29 + 22)) (n := (s29 + 132)) (by omega) (by omega) ?_
                refine z_iconst X (0 : Int32) dL_lines_87 (by decide) ?_
                refine z_istore X [(8, .int (0 : Int32)), (0, .ref (ax 0)), (1, .ref q_bl), (2, .int x2), (3, .int x3), (4, .int x4), (5, .int x5), (6, .int x6), (7, .int x7)] dL_lines_88 (by decide) rfl ?_
                refine z_sub (lv' := [(0, .ref (ax 0)), (1, .ref q_bl), (2, .int x2), (3, .int x3), (4, .int x4), (5, .int x5), (6, .int x6), (7, .int x7), (8, .int (0 : Int32))]) [1, 2, 3, 4, 5, 6, 7, 8, 0] rfl ?_
                exact H90 5 x2 x3 x4 x5 x6 x7 (0 : Int32) x _ _ (by first | exact Nat.le_of_ble_eq_true rfl | omega) (by first | exact Nat.le_of_ble_eq_true rfl | omega) h
              · refine z_aload_n X 0 dL_lines_60 rfl rfl ?_
                refine z_iload X 8 dL_lines_61 rfl ?_
                refine z_iconst X (0 : Int32) dL_lines_63 (by decide) ?_
                obtain ⟨o30, e31, h⟩ := bnd_p h
                have f32 := bk_appP (X := OW g ax ad x) (X' := OW g ax ad x) (perm_of (n := 1) (E := [(q_bl, .inl (g 3, 64, .inl a_bl))]) (wc := []) (wr := [(q_bl, .inl (g 3, 64, .inl a_bl))]) [] [0] rfl rfl rfl (by decide +kernel)) (perm_of (n := 1) (E := [(q_bl, .inl (g 3, 64, .inl a_bl))]) (wc := []) (wr := [(q_bl, .inl (g 3, 64, .inl a_bl))]) [] [0] rfl rfl rfl (by decide +kernel)) rfl OW_fst
                refine z_gSH (rest := []) (ws' := ([(q_bl, .inl (g 3, 64, .inl a_bl))] ++ OW g ax ad x)) X (KF_ok ev) (kc_of (KF_ok ev) (fun _ _ _ q => q) hK hA f32.1) hA k_L_of (c_L_of l hfl ev D g ad ax x8 (0 : Int32) x o30 e31) ql_L_L_of dL_lines_64 f32.1 f32.2 rfl rfl ⟨Nat.le_of_ble_eq_true rfl, Nat.le_of_ble_eq_true rfl, rfl, rfl, (Nat.le_trans (m := 4487) (by first | exact Nat.le_of_ble_eq_true rfl | omega) (Nat.le_of_ble_eq_true rfl)), (Nat.le_trans (m := 31982) (by first | exact Nat.le_of_ble_eq_true rfl | omega) (Nat.le_of_ble_eq_true rfl))⟩ (Nat.le_of_ble_eq_true rfl) ?_
                refine z_iload X 5 dL_lines_67 rfl ?_
                refine z_icmp_ne X 77 dL_lines_69 (by decide) h (fun _ h => ?_) (fun _ h => ?_)
                · refine z_iload X 8 dL_lines_72 rfl ?_
                  refine z_goto X 79 dL_lines_74 (by decide) ?_
                  refine z_widen (k := (c54 + 2)) (n := (s54 + 12)) (by first | exact Nat.le_of_ble_eq_true rfl | omega) (by first | exact Nat.le_of_ble_eq_true rfl | omega) ?_
                  refine z_sub (lv' := [(0, .ref (ax 0)), (1, .ref q_bl), (2, .int x2), (3, .int x3), (4, .int x4), (5, .int x5), (7, .int x7), (8, .int x8)]) [0, 1, 2, 3, 4, 5, 7, 8] rfl ?_
                  exact H79 x8 x2 x3 x4 x5 x7 x8 x h
                · refine z_iload X 6 dL_lines_77 rfl ?_
                  refine z_widen (k := (c54 + 2)) (n := (s54 + 12)) (by first | exact Nat.le_of_ble_eq_true rfl | omega) (by first | exact Nat.le_of_ble_eq_true rfl | omega) ?_
                  refine z_sub (lv' := [(0, .ref (ax 0)), (1, .ref q_bl), (2, .int x2), (3, .int x3), (4, .int x4), (5, .int x5), (7, .int x7), (8, .int x8)]) [0, 1, 2, 3, 4, 5, 7, 8] rfl ?_
                  exact H79 x6 x2 x3 x4 x5 x7 x8 x h
          refine z_iload X 4 dL_lines_29 rfl ?_
          refine z_bipush X (8 : Int32) dL_lines_31 (by decide) ?_
          refine z_icmp_ge X 283 dL_lines_33 (by decide) h (fun _ h => ?_) (fun _ h => ?_)
          · refine z_widen (k := (c8 + 388)) (n := (s8 + 2328)) (by omega) (by omega) ?_
            refine z_iinc X 3 [(3, .int (x3 + 1)), (0, .ref (ax 0)), (1, .ref q_bl), (2, .int x2), (4, .int x4)] dL_lines_283 rfl rfl (by decide) rfl ?_
            refine z_goto X 8 dL_lines_286 (by decide) ?_
            refine z_sub (lv' := [(0, .ref (ax 0)), (1, .ref q_bl), (2, .int x2), (3, .int (x3 + 1))]) [1, 2, 3, 0] rfl ?_
            exact ih8 x2 (x3 + 1) x _ _ (by omega) (by omega) h
          · refine z_bipush X (8 : Int32) dL_lines_36 (by decide) ?_
            refine z_iload_n X 3 dL_lines_38 rfl rfl ?_
            refine z_imul X dL_lines_39 ?_
            refine z_iload X 4 dL_lines_40 rfl ?_
            refine z_iadd X dL_lines_42 ?_
            refine z_istore X [(5, .int (((8 : Int32) * x3) + x4)), (0, .ref (ax 0)), (1, .ref q_bl), (2, .int x2), (3, .int x3), (4, .int x4)] dL_lines_43 (by decide) rfl ?_
            refine z_iconst X ((-1) : Int32) dL_lines_45 (by decide) ?_
            refine z_istore X [(6, .int ((-1) : Int32)), (5, .int (((8 : Int32) * x3) + x4)), (0, .ref (ax 0)), (1, .ref q_bl), (2, .int x2), (3, .int x3), (4, .int x4)] dL_lines_46 (by decide) rfl ?_
            refine z_iconst X (0 : Int32) dL_lines_48 (by decide) ?_
            refine z_istore X [(7, .int (0 : Int32)), (6, .int ((-1) : Int32)), (5, .int (((8 : Int32) * x3) + x4)), (0, .ref (ax 0)), (1, .ref q_bl), (2, .int x2), (3, .int x3), (4, .int x4)] dL_lines_49 (by decide) rfl ?_
            refine z_iconst X (0 : Int32) dL_lines_51 (by decide) ?_
            refine z_istore X [(8, .int (0 : Int32)), (7, .int (0 : Int32)), (6, .int ((-1) : Int32)), (5, .int (((8 : Int32) * x3) + x4)), (0, .ref (ax 0)), (1, .ref q_bl), (2, .int x2), (3, .int x3), (4, .int x4)] dL_lines_52 (by decide) rfl ?_
            refine z_sub (lv' := [(0, .ref (ax 0)), (1, .ref q_bl), (2, .int x2), (3, .int x3), (4, .int x4), (5, .int (((8 : Int32) * x3) + x4)), (6, .int ((-1) : Int32)), (7, .int (0 : Int32)), (8, .int (0 : Int32))]) [4, 5, 6, 7, 8, 3, 2, 1, 0] rfl ?_
            exact H54 11 x2 x3 x4 (((8 : Int32) * x3) + x4) ((-1) : Int32) (0 : Int32) (0 : Int32) x _ _ (by first | exact Nat.le_of_ble_eq_true rfl | omega) (by first | exact Nat.le_of_ble_eq_true rfl | omega) h
      refine z_iload_n X 3 dL_lines_8 rfl rfl ?_
      refine z_bipush X (8 : Int32) dL_lines_9 (by decide) ?_
      refine z_icmp_ge X 289 dL_lines_11 (by decide) h (fun _ h => ?_) (fun _ h => ?_)
      · refine z_widen (k := 3493) (n := 20958) (by omega) (by omega) ?_
        refine z_iconst X (0 : Int32) dL_lines_289 (by decide) ?_
        refine z_istore_n X [(3, .int (0 : Int32)), (0, .ref (ax 0)), (1, .ref q_bl), (2, .int x2)] dL_lines_290 rfl (by decide) rfl ?_
        refine z_sub (lv' := [(0, .ref (ax 0)), (1, .ref q_bl), (2, .int x2), (3, .int (0 : Int32))]) [1, 2, 3, 0] rfl ?_
        exact H291 11 x2 (0 : Int32) x _ _ (by first | exact Nat.le_of_ble_eq_true rfl | omega) (by first | exact Nat.le_of_ble_eq_true rfl | omega) h
      · refine z_aload_n X 0 dL_lines_14 rfl rfl ?_
        refine z_iload_n X 3 dL_lines_15 rfl rfl ?_
        obtain ⟨o18, e19, h⟩ := bnd_p h
        have f20 := bk_appP (X := OW g ax ad x) (X' := OW g ax ad o18.2) (perm_of (n := 1) (E := [(q_bl, .inl (g 3, 64, .inl a_bl))]) (wc := []) (wr := [(q_bl, .inl (g 3, 64, .inl a_bl))]) [] [0] rfl rfl rfl (by decide +kernel)) (perm_of (n := 1) (E := [(q_bl, .inl (g 3, 64, .inl a_bl))]) (wc := []) (wr := [(q_bl, .inl (g 3, 64, .inl a_bl))]) [] [0] rfl rfl rfl (by decide +kernel)) rfl OW_fst
        refine z_gSH (rest := []) (ws' := ([(q_bl, .inl (g 3, 64, .inl a_bl))] ++ OW g ax ad o18.2)) X (KF_ok ev) (kc_of (KF_ok ev) (fun _ _ _ q => q) hK hA f20.1) hA k_L_line (c_L_line l hfl ev D g ad ax x3 x o18 e19) ql_L_L_line dL_lines_16 f20.1 f20.2 rfl rfl ⟨Nat.le_of_ble_eq_true rfl, Nat.le_of_ble_eq_true rfl, rfl, rfl, (Nat.le_trans (m := 4487) (by first | exact Nat.le_of_ble_eq_true rfl | omega) (Nat.le_of_ble_eq_true rfl)), (Nat.le_trans (m := 31982) (by first | exact Nat.le_of_ble_eq_true rfl | omega) (Nat.le_of_ble_eq_true rfl))⟩ (Nat.le_of_ble_eq_true rfl) ?_
        refine z_bipush X (8 : Int32) dL_lines_19 (by decide) ?_
        refine z_icmp_eq X 26 dL_lines_21 (by decide) h (fun _ h => ?_) (fun _ h => ?_)
        · refine z_iconst X (0 : Int32) dL_lines_26 (by decide) ?_
          refine z_istore X [(4, .int (0 : Int32)), (0, .ref (ax 0)), (1, .ref q_bl), (2, .int x2), (3, .int x3)] dL_lines_27 (by decide) rfl ?_
          refine z_sub (lv' := [(0, .ref (ax 0)), (1, .ref q_bl), (2, .int x2), (3, .int x3), (4, .int (0 : Int32))]) [1, 2, 3, 4, 0] rfl ?_
          exact H29 9 x2 x3 (0 : Int32) o18.2 _ _ (by first | exact Nat.le_of_ble_eq_true rfl | omega) (by first | exact Nat.le_of_ble_eq_true rfl | omega) h
        · cases h
  refine z_aload_n X 0 dL_lines_0 rfl rfl ?_
  refine z_iconst X (2 : Int32) dL_lines_1 (by decide) ?_
  obtain ⟨o1, e2, h⟩ := bnd_p h
  obtain ⟨hz3, h⟩ := grd_p h
  obtain ⟨wco1, wdo1, hNo1, bo1, do1, xo1⟩ := nx_account l hfl ev.ak ev.av ev.aS D g ad ax (2 : Int32) x o1.1 o1.2.1 o1.2.2 e2
  rw [xo1] at do1
  have fo1 := bk_E (E := [(q_bl, .inl (g 3, 64, .inl a_bl))]) bo1 do1
  refine z_exV (rest := []) (q0 := 1) (ci := 11) (ws' := ([(q_bl, .inl (g 3, 64, .inl a_bl))] ++ OW g ax ad x)) X hK.1 hA k_X11_account hNo1 ql_L_X11_account dL_lines_2 fo1.1 fo1.2 rfl rfl rfl rfl rfl ⟨Nat.le_of_ble_eq_true rfl, Nat.le_of_ble_eq_true rfl, rfl, rfl, (Nat.le_trans (m := 4487) (by first | exact Nat.le_of_ble_eq_true rfl | omega) (Nat.le_of_ble_eq_true rfl)), (Nat.le_trans (m := 31982) (by first | exact Nat.le_of_ble_eq_true rfl | omega) (Nat.le_of_ble_eq_true rfl))⟩ (Nat.le_of_ble_eq_true rfl) (fun _ => ?_) (fun q => absurd hz3 q)
  refine z_istore_n X [(2, .int o1.2.1), (0, .ref (ax 0)), (1, .ref q_bl)] dL_lines_5 rfl (by decide) rfl ?_
  refine z_iconst X (0 : Int32) dL_lines_6 (by decide) ?_
  refine z_istore_n X [(3, .int (0 : Int32)), (2, .int o1.2.1), (0, .ref (ax 0)), (1, .ref q_bl)] dL_lines_7 rfl (by decide) rfl ?_
  refine z_sub (lv' := [(0, .ref (ax 0)), (1, .ref q_bl), (2, .int o1.2.1), (3, .int (0 : Int32))]) [2, 3, 1, 0] rfl ?_
  exact H8 9 o1.2.1 (0 : Int32) x _ _ (by first | exact Nat.le_of_ble_eq_true rfl | omega) (by first | exact Nat.le_of_ble_eq_true rfl | omega) h
