def L_L_undone_421 (L : Nat) (xs : Nat → Int32) : Nat → Int32 → (XVal) → (Nat → Int64) → Option (Int32 × XVal)
  | 0, _, _, _ => none
  | _n + 1, x4, x, a_n2 =>
    brn (x4 < 0) (some ((1 : Int32), x)) (bnd (F_L_undo x) (fun o1 => brn (o1.1 < 0) (none) (bnd (F_L_sum o1.2) (fun o4 => grd (inb x4 9) (brn ((lg_cmp o4.1 (a_n2 x4.toNatClampNeg)) = 0) (L_L_undone_421 L xs _n (x4 + (-1)) o4.2 a_n2) (none))))))

def J_L_undone_408 (L : Nat) (xs : Nat → Int32) (r10 : Int32 → Int32 → (XVal) → (Nat → Int64) → Option (Int32 × XVal)) (t0 : Int32) (t1 : Int32) (x4 : Int32) (x : XVal) (a_n2 : Nat → Int64) : Option (Int32 × XVal) :=
  r10 (t1 + t0) (x4 + 1) x a_n2

def J_L_undone_397 (L : Nat) (xs : Nat → Int32) (r10 : Int32 → Int32 → (XVal) → (Nat → Int64) → Option (Int32 × XVal)) (x3 : Int32) (x4 : Int32) (x7 : Int32) (x : XVal) (a_n2 : Nat → Int64) : Option (Int32 × XVal) :=
  brn (0 ≤ x7) (J_L_undone_408 L xs (r10) (1 : Int32) x3 x4 x a_n2) (J_L_undone_408 L xs (r10) (0 : Int32) x3 x4 x a_n2)

def J_L_undone_379 (L : Nat) (xs : Nat → Int32) (r10 : Int32 → Int32 → (XVal) → (Nat → Int64) → Option (Int32 × XVal)) (x3 : Int32) (x4 : Int32) (x7 : Int32) (x : XVal) (a_n2 : Nat → Int64) : Option (Int32 × XVal) :=
  brn (0 ≤ x7) (J_L_undone_397 L xs (r10) x3 x4 x7 x a_n2) (bnd (F_L_sum x) (fun o17 => grd (inb x3 9) (brn ((lg_cmp o17.1 (a_n2 x3.toNatClampNeg)) = 0) (J_L_undone_397 L xs (r10) x3 x4 x7 o17.2 a_n2) (none))))

def L_L_undone_10 (L : Nat) (xs : Nat → Int32) : Nat → Int32 → Int32 → (XVal) → (Nat → Int64) → Option (Int32 × XVal)
  | 0, _, _, _, _ => none
  | _n + 1, x3, x4, x, a_n2 =>
    brn ((7 : Int32) ≤ x4) (L_L_undone_421 L xs 8 (x3 - (1 : Int32)) x a_n2) (bnd (F_L_cell L xs ((30 : Int32) + x4)) (fun o7 => bnd (F_L_sum x) (fun o10 => grd (inb x3 9) (brn (((ushr o7 (1 : Int32)) - (ushr o7 (1 : Int32)) / (11 : Int32) * (11 : Int32)) = (0 : Int32)) (bnd (F_L_house ((ushr (ushr o7 (1 : Int32)) (4 : Int32)) - (ushr (ushr o7 (1 : Int32)) (4 : Int32)) / (66 : Int32) * (66 : Int32)) ((ushr (ushr (ushr o7 (1 : Int32)) (4 : Int32)) (7 : Int32)) - (ushr (ushr (ushr o7 (1 : Int32)) (4 : Int32)) (7 : Int32)) / (25 : Int32) * (25 : Int32)) ((ushr (ushr (ushr o7 (1 : Int32)) (4 : Int32)) (12 : Int32)) - (ushr (ushr (ushr o7 (1 : Int32)) (4 : Int32)) (12 : Int32)) / (25 : Int32) * (25 : Int32)) o10.2) (fun o14 => J_L_undone_379 L xs (L_L_undone_10 L xs _n) x3 x4 o14.1 o14.2 (vp_updL a_n2 x3.toNatClampNeg o10.1))) (brn (((ushr o7 (1 : Int32)) - (ushr o7 (1 : Int32)) / (11 : Int32) * (11 : Int32)) = (1 : Int32)) (bnd (F_L_goAway ((ushr (ushr o7 (1 : Int32)) (4 : Int32)) - (ushr (ushr o7 (1 : Int32)) (4 : Int32)) / (8 : Int32) * (8 : Int32)) o10.2) (fun o21 => J_L_undone_379 L xs (L_L_undone_10 L xs _n) x3 x4 o21.1 o21.2 (vp_updL a_n2 x3.toNatClampNeg o10.1))) (brn (((ushr o7 (1 : Int32)) - (ushr o7 (1 : Int32)) / (11 : Int32) * (11 : Int32)) = (2 : Int32)) (bnd (F_L_block ((ushr (ushr o7 (1 : Int32)) (4 : Int32)) - (ushr (ushr o7 (1 : Int32)) (4 : Int32)) / (66 : Int32) * (66 : Int32)) o10.2) (fun o25 => J_L_undone_379 L xs (L_L_undone_10 L xs _n) x3 x4 o25.1 o25.2 (vp_updL a_n2 x3.toNatClampNeg o10.1))) (brn (((ushr o7 (1 : Int32)) - (ushr o7 (1 : Int32)) / (11 : Int32) * (11 : Int32)) = (3 : Int32)) (bnd (F_L_hall ((ushr (ushr o7 (1 : Int32)) (4 : Int32)) - (ushr (ushr o7 (1 : Int32)) (4 : Int32)) / (9 : Int32) * (9 : Int32)) ((ushr (ushr (ushr o7 (1 : Int32)) (4 : Int32)) (4 : Int32)) - (ushr (ushr (ushr o7 (1 : Int32)) (4 : Int32)) (4 : Int32)) / (8 : Int32) * (8 : Int32)) ((ushr (ushr (ushr o7 (1 : Int32)) (4 : Int32)) (7 : Int32)) - (ushr (ushr (ushr o7 (1 : Int32)) (4 : Int32)) (7 : Int32)) / (9 : Int32) * (9 : Int32)) o10.2) (fun o29 => J_L_undone_379 L xs (L_L_undone_10 L xs _n) x3 x4 o29.1 o29.2 (vp_updL a_n2 x3.toNatClampNeg o10.1))) (brn (((ushr o7 (1 : Int32)) - (ushr o7 (1 : Int32)) / (11 : Int32) * (11 : Int32)) = (4 : Int32)) (bnd (F_L_dropHall ((ushr (ushr o7 (1 : Int32)) (4 : Int32)) - (ushr (ushr o7 (1 : Int32)) (4 : Int32)) / (5 : Int32) * (5 : Int32)) o10.2) (fun o33 => J_L_undone_379 L xs (L_L_undone_10 L xs _n) x3 x4 o33.1 o33.2 (vp_updL a_n2 x3.toNatClampNeg o10.1))) (brn (((ushr o7 (1 : Int32)) - (ushr o7 (1 : Int32)) / (11 : Int32) * (11 : Int32)) = (5 : Int32)) (bnd (F_L_pass ((ushr (ushr o7 (1 : Int32)) (4 : Int32)) - (ushr (ushr o7 (1 : Int32)) (4 : Int32)) / (101 : Int32) * (101 : Int32)) o10.2) (fun o37 => J_L_undone_379 L xs (L_L_undone_10 L xs _n) x3 x4 o37.1 o37.2 (vp_updL a_n2 x3.toNatClampNeg o10.1))) (brn (((ushr o7 (1 : Int32)) - (ushr o7 (1 : Int32)) / (11 : Int32) * (11 : Int32)) = (6 : Int32)) (bnd (F_L_ring ((ushr (ushr o7 (1 : Int32)) (4 : Int32)) - (ushr (ushr o7 (1 : Int32)) (4 : Int32)) / (8 : Int32) * (8 : Int32)) ((ushr (ushr (ushr o7 (1 : Int32)) (4 : Int32)) (3 : Int32)) - (ushr (ushr (ushr o7 (1 : Int32)) (4 : Int32)) (3 : Int32)) / (5 : Int32) * (5 : Int32)) ((ushr (ushr (ushr o7 (1 : Int32)) (4 : Int32)) (6 : Int32)) - (ushr (ushr (ushr o7 (1 : Int32)) (4 : Int32)) (6 : Int32)) / (5 : Int32) * (5 : Int32)) o10.2) (fun o41 => J_L_undone_379 L xs (L_L_undone_10 L xs _n) x3 x4 o41.1 o41.2 (vp_updL a_n2 x3.toNatClampNeg o10.1))) (brn (((ushr o7 (1 : Int32)) - (ushr o7 (1 : Int32)) / (11 : Int32) * (11 : Int32)) = (7 : Int32)) (bnd (F_L_post ((ushr (ushr o7 (1 : Int32)) (4 : Int32)) - (ushr (ushr o7 (1 : Int32)) (4 : Int32)) / (66 : Int32) * (66 : Int32)) o10.2) (fun o45 => J_L_undone_379 L xs (L_L_undone_10 L xs _n) x3 x4 o45.1 o45.2 (vp_updL a_n2 x3.toNatClampNeg o10.1))) (brn (((ushr o7 (1 : Int32)) - (ushr o7 (1 : Int32)) / (11 : Int32) * (11 : Int32)) = (8 : Int32)) (bnd (F_L_dropPost ((ushr (ushr o7 (1 : Int32)) (4 : Int32)) - (ushr (ushr o7 (1 : Int32)) (4 : Int32)) / (5 : Int32) * (5 : Int32)) o10.2) (fun o49 => J_L_undone_379 L xs (L_L_undone_10 L xs _n) x3 x4 o49.1 o49.2 (vp_updL a_n2 x3.toNatClampNeg o10.1))) (brn (((ushr o7 (1 : Int32)) - (ushr o7 (1 : Int32)) / (11 : Int32) * (11 : Int32)) = (9 : Int32)) (bnd (F_L_tell ((ushr (ushr o7 (1 : Int32)) (4 : Int32)) - (ushr (ushr o7 (1 : Int32)) (4 : Int32)) / (4 : Int32) * (4 : Int32)) ((ushr (ushr (ushr o7 (1 : Int32)) (4 : Int32)) (2 : Int32)) - (ushr (ushr (ushr o7 (1 : Int32)) (4 : Int32)) (2 : Int32)) / (17 : Int32) * (17 : Int32)) o10.2) (fun o53 => J_L_undone_379 L xs (L_L_undone_10 L xs _n) x3 x4 o53.1 o53.2 (vp_updL a_n2 x3.toNatClampNeg o10.1))) (bnd (F_sg_undone (ushr o7 (1 : Int32)) (ushr (ushr o7 (1 : Int32)) (4 : Int32)) o10.2) (fun o56 => J_L_undone_379 L xs (L_L_undone_10 L xs _n) x3 x4 o56.1 o56.2 (vp_updL a_n2 x3.toNatClampNeg o10.1))))))))))))))))

def F_L_undone (L : Nat) (xs : Nat → Int32) (x : XVal) : Option (Int32 × XVal) :=
  L_L_undone_10 L xs 8 (0 : Int32) (0 : Int32) x (fun _ => 0)

theorem k_L_undone : cardS yL_undone (Cond.code yL_undone cL_undone 8 (some .boolean)) 2 := ⟨qs_L_undone, qc_L_undone, qn_L, by decide +kernel, by decide +kernel, by decide +kernel⟩
set_option maxHeartbeats 4000000 in
set_option maxRecDepth 100000 in
theorem c_L_undone (l : Launch) (hfl : l.stackTraces = false) (ev : LEv) (D : va_G) (g : Nat → ClassId) (ad : Nat → Nat → Nat) (ax : Nat → Nat) (x : XVal) (o : Int32 × XVal) (h : F_L_undone ev.L ev.xs x = some o) : MG l yL_undone (Cond.code yL_undone cL_undone 8 (some .boolean)) { frames := 16, cells := 9993, slots := 63641, locals := 400 } (KF ev) D g [.ref ev.b, .ref (ax 0)] ([] ++ OW g ax ad x) (some (.int o.1)) ([] ++ OW g ax ad o.2) 9993 63641 := by
  refine z_g_start (by decide) (Nat.le_of_ble_eq_true rfl) ?_
  intro p e s m args below meth c Q A X hr hK hA hQ
  refine z_lv (lv' := [(0, .ref ev.b), (1, .ref (ax 0))]) rfl ?_
  have H421 : ∀ (n : Nat) (q_n2 : Nat) (x4 : Int32) (x : XVal) (a_n2 : Nat → Int64) (c421 s421 : Nat), c421 + 387 * n ≤ 9993 → s421 + 2322 * n ≤ 63641 → L_L_undone_421 ev.L ev.xs n x4 x a_n2 = some o → Z p l e { frames := 16, cells := 9993, slots := 63641, locals := 400 } s m args below meth c Q 8 c421 s421 (IW D A s ([(q_n2, .inl (g 2, 9, .inr (.inl a_n2)))] ++ OW g ax ad x)) 421 [(1, .ref (ax 0)), (2, .ref q_n2), (4, .int x4)] [] := by
    intro n
    induction n with
    | zero => intro q_n2 x4 x a_n2 c421 s421 _ _ h; cases h
    | succ n421 ih421 =>
      intro q_n2 x4 x a_n2 c421 s421 hc421 hs421 h
      refine z_iload X 2 dL_undone_421 rfl ?_
      refine z_if_lt X 453 dL_undone_423 (by decide) h (fun _ h => ?_) (fun _ h => ?_)
      · refine z_widen (k := 9993) (n := 63641) (by omega) (by omega) ?_
        refine z_iconst X (1 : Int32) dL_undone_453 (by decide) ?_
        refine z_drop (ws' := ([] ++ OW g ax ad x)) (wr := [(q_n2, .inl (g 2, 9, .inr (.inl a_n2)))]) (pm_drop (perm_of (n := 1) (E := [(q_n2, .inl (g 2, 9, .inr (.inl a_n2)))]) (wc := []) (wr := [(q_n2, .inl (g 2, 9, .inr (.inl a_n2)))]) [] [0] rfl rfl rfl (by decide +kernel))) ?_
        cases h
        exact z_lzret X hQ (by first | exact Nat.le_of_ble_eq_true rfl | omega) (by first | exact Nat.le_of_ble_eq_true rfl | omega) hr dL_undone_454 rfl
      · refine z_aload_n X 0 dL_undone_426 rfl rfl ?_
        obtain ⟨o1, e2, h⟩ := bnd_p h
        have f3 := bk_appP (X := OW g ax ad x) (X' := OW g ax ad o1.2) (perm_of (n := 1) (E := [(q_n2, .inl (g 2, 9, .inr (.inl a_n2)))]) (wc := []) (wr := [(q_n2, .inl (g 2, 9, .inr (.inl a_n2)))]) [] [0] rfl rfl rfl (by decide +kernel)) (perm_of (n := 1) (E := [(q_n2, .inl (g 2, 9, .inr (.inl a_n2)))]) (wc := []) (wr := [(q_n2, .inl (g 2, 9, .inr (.inl a_n2)))]) [] [0] rfl rfl rfl (by decide +kernel)) rfl OW_fst
        refine z_gSH (rest := []) (ws' := ([(q_n2, .inl (g 2, 9, .inr (.inl a_n2)))] ++ OW g ax ad o1.2)) X (KF_ok ev) (kc_of (KF_ok ev) (fun _ _ _ q => q) hK hA f3.1) hA k_L_undo (c_L_undo l hfl ev D g ad ax x o1 e2) ql_L_L_undo dL_undone_427 f3.1 f3.2 rfl rfl ⟨Nat.le_of_ble_eq_true rfl, Nat.le_of_ble_eq_true rfl, rfl, rfl, (Nat.le_trans (m := 9993) (by first | exact Nat.le_of_ble_eq_true rfl | omega) (Nat.le_of_ble_eq_true rfl)), (Nat.le_trans (m := 63641) (by first | exact Nat.le_of_ble_eq_true rfl | omega) (Nat.le_of_ble_eq_true rfl))⟩ (Nat.le_of_ble_eq_true rfl) ?_
        refine z_if_lt X 445 dL_undone_430 (by decide) h (fun _ h => ?_) (fun _ h => ?_)
        · cases h
        · refine z_aload_n X 0 dL_undone_433 rfl rfl ?_
          obtain ⟨o4, e5, h⟩ := bnd_p h
          have f6 := bk_appP (X := OW g ax ad o1.2) (X' := OW g ax ad o4.2) (perm_of (n := 1) (E := [(q_n2, .inl (g 2, 9, .inr (.inl a_n2)))]) (wc := []) (wr := [(q_n2, .inl (g 2, 9, .inr (.inl a_n2)))]) [] [0] rfl rfl rfl (by decide +kernel)) (perm_of (n := 1) (E := [(q_n2, .inl (g 2, 9, .inr (.inl a_n2)))]) (wc := []) (wr := [(q_n2, .inl (g 2, 9, .inr (.inl a_n2)))]) [] [0] rfl rfl rfl (by decide +kernel)) rfl OW_fst
          refine z_gS (rest := []) (ws' := ([(q_n2, .inl (g 2, 9, .inr (.inl a_n2)))] ++ OW g ax ad o4.2)) X (KF_ok ev) (kc_of (KF_ok ev) (fun _ _ _ q => q) hK hA f6.1) hA k_L_sum (c_L_sum l hfl ev D g ad ax o1.2 o4 e5) ql_L_L_sum dL_undone_434 f6.1 f6.2 rfl rfl ⟨Nat.le_of_ble_eq_true rfl, Nat.le_of_ble_eq_true rfl, rfl, rfl, (Nat.le_trans (m := 9993) (by first | exact Nat.le_of_ble_eq_true rfl | omega) (Nat.le_of_ble_eq_true rfl)), (Nat.le_trans (m := 63641) (by first | exact Nat.le_of_ble_eq_true rfl | omega) (Nat.le_of_ble_eq_true rfl))⟩ (Nat.le_of_ble_eq_true rfl) ?_
          refine z_aload_n X 1 dL_undone_437 rfl rfl ?_
          refine z_iload X 2 dL_undone_438 rfl ?_
          refine z_laldG (q0 := 0) X IW_P dL_undone_440 rfl h (fun h => ?_)
          refine z_lcmp X dL_undone_441 ?_
          refine z_if_eq X 447 dL_undone_442 (by decide) h (fun _ h => ?_) (fun _ h => ?_)
          · refine z_iinc X 2 [(4, .int (x4 + (-1))), (1, .ref (ax 0)), (2, .ref q_n2)] dL_undone_447 rfl rfl (by decide) rfl ?_
            refine z_goto X 421 dL_undone_450 (by decide) ?_
            refine z_sub (lv' := [(1, .ref (ax 0)), (2, .ref q_n2), (4, .int (x4 + (-1)))]) [1, 2, 0] rfl ?_
            exact ih421 q_n2 (x4 + (-1)) o4.2 a_n2 _ _ (by omega) (by omega) h
          · cases h
  have H10 : ∀ (n : Nat) (q_n2 : Nat) (x3 : Int32) (x4 : Int32) (x : XVal) (a_n2 : Nat → Int64) (c10 s10 : Nat), c10 + 862 * n ≤ 6897 → s10 + 5632 * n ≤ 45065 → L_L_undone_10 ev.L ev.xs n x3 x4 x a_n2 = some o → Z p l e { frames := 16, cells := 9993, slots := 63641, locals := 400 } s m args below meth c Q 8 c10 s10 (IW D A s ([(q_n2, .inl (g 2, 9, .inr (.inl a_n2)))] ++ OW g ax ad x)) 10 [(0, .ref ev.b), (1, .ref (ax 0)), (2, .ref q_n2), (3, .int x3), (4, .int x4)] [] := by
    intro n
    induction n with
    | zero => intro q_n2 x3 x4 x a_n2 c10 s10 _ _ h; cases h
    | succ n10 ih10 =>
      intro q_n2 x3 x4 x a_n2 c10 s10 hc10 hs10 h
      have H408 : ∀ (q_n2 : Nat) (t0 : Int32) (t1 : Int32) (x4 : Int32) (x : XVal) (a_n2 : Nat → Int64), J_L_undone_408 ev.L ev.xs (L_L_undone_10 ev.L ev.xs n10) t0 t1 x4 x a_n2 = some o → Z p l e { frames := 16, cells := 9993, slots := 63641, locals := 400 } s m args below meth c Q 8 (c10 + 862) (s10 + 5632) (IW D A s ([(q_n2, .inl (g 2, 9, .inr (.inl a_n2)))] ++ OW g ax ad x)) 408 [(0, .ref ev.b), (1, .ref (ax 0)), (2, .ref q_n2), (4, .int x4)] [.int t0, .int t1] := by
        intro q_n2 t0 t1 x4 x a_n2 h
        refine z_iadd X dL_undone_408 ?_
        refine z_istore_n X [(3, .int (t1 + t0)), (0, .ref ev.b), (1, .ref (ax 0)), (2, .ref q_n2), (4, .int x4)] dL_undone_409 rfl (by decide) rfl ?_
        refine z_iinc X 4 [(4, .int (x4 + 1)), (3, .int (t1 + t0)), (0, .ref ev.b), (1, .ref (ax 0)), (2, .ref q_n2)] dL_undone_410 rfl rfl (by decide) rfl ?_
        refine z_goto X 10 dL_undone_413 (by decide) ?_
        refine z_sub (lv' := [(0, .ref ev.b), (1, .ref (ax 0)), (2, .ref q_n2), (3, .int (t1 + t0)), (4, .int (x4 + 1))]) [2, 3, 4, 1, 0] rfl ?_
        exact ih10 q_n2 (t1 + t0) (x4 + 1) x a_n2 _ _ (by omega) (by omega) h
      have H397 : ∀ (q_n2 : Nat) (x3 : Int32) (x4 : Int32) (x7 : Int32) (x : XVal) (a_n2 : Nat → Int64), J_L_undone_397 ev.L ev.xs (L_L_undone_10 ev.L ev.xs n10) x3 x4 x7 x a_n2 = some o → Z p l e { frames := 16, cells := 9993, slots := 63641, locals := 400 } s m args below meth c Q 8 (c10 + 862) (s10 + 5632) (IW D A s ([(q_n2, .inl (g 2, 9, .inr (.inl a_n2)))] ++ OW g ax ad x)) 397 [(0, .ref ev.b), (1, .ref (ax 0)), (2, .ref q_n2), (3, .int x3), (4, .int x4), (7, .int x7)] [] := by
        intro q_n2 x3 x4 x7 x a_n2 h
        refine z_iload_n X 3 dL_undone_397 rfl rfl ?_
        refine z_iload X 5 dL_undone_398 rfl ?_
        refine z_if_ge X 407 dL_undone_400 (by decide) h (fun _ h => ?_) (fun _ h => ?_)
        · refine z_iconst X (1 : Int32) dL_undone_407 (by decide) ?_
          refine z_widen (k := (c10 + 862)) (n := (s10 + 5632)) (by first | exact Nat.le_of_ble_eq_true rfl | omega) (by first | exact Nat.le_of_ble_eq_true rfl | omega) ?_
          refine z_sub (lv' := [(0, .ref ev.b), (1, .ref (ax 0)), (2, .ref q_n2), (4, .int x4)]) [0, 1, 2, 4] rfl ?_
          exact H408 q_n2 (1 : Int32) x3 x4 x a_n2 h
        · refine z_iconst X (0 : Int32) dL_undone_403 (by decide) ?_
          refine z_goto X 408 dL_undone_404 (by decide) ?_
          refine z_widen (k := (c10 + 862)) (n := (s10 + 5632)) (by first | exact Nat.le_of_ble_eq_true rfl | omega) (by first | exact Nat.le_of_ble_eq_true rfl | omega) ?_
          refine z_sub (lv' := [(0, .ref ev.b), (1, .ref (ax 0)), (2, .ref q_n2), (4, .int x4)]) [0, 1, 2, 4] rfl ?_
          exact H408 q_n2 (0 : Int32) x3 x4 x a_n2 h
      have H379 : ∀ (q_n2 : Nat) (x3 : Int32) (x4 : Int32) (x7 : Int32) (x : XVal) (a_n2 : Nat → Int64), J_L_undone_379 ev.L ev.xs (L_L_undone_10 ev.L ev.xs n10) x3 x4 x7 x a_n2 = some o → Z p l e { frames := 16, cells := 9993, slots := 63641, locals := 400 } s m args below meth c Q 8 (c10 + 476) (s10 + 3316) (IW D A s ([(q_n2, .inl (g 2, 9, .inr (.inl a_n2)))] ++ OW g ax ad x)) 379 [(0, .ref ev.b), (1, .ref (ax 0)), (2, .ref q_n2), (3, .int x3), (4, .int x4), (7, .int x7)] [] := by
        intro q_n2 x3 x4 x7 x a_n2 h
        refine z_iload X 5 dL_undone_379 rfl ?_
        refine z_if_ge X 397 dL_undone_381 (by decide) h (fun _ h => ?_) (fun _ h => ?_)
        · refine z_widen (k := (c10 + 862)) (n := (s10 + 5632)) (by first | exact Nat.le_of_ble_eq_true rfl | omega) (by first | exact Nat.le_of_ble_eq_true rfl | omega) ?_
          exact H397 q_n2 x3 x4 x7 x a_n2 h
        · refine z_aload_n X 1 dL_undone_384 rfl rfl ?_
          obtain ⟨o17, e18, h⟩ := bnd_p h
          have f19 := bk_appP (X := OW g ax ad x) (X' := OW g ax ad o17.2) (perm_of (n := 1) (E := [(q_n2, .inl (g 2, 9, .inr (.inl a_n2)))]) (wc := []) (wr := [(q_n2, .inl (g 2, 9, .inr (.inl a_n2)))]) [] [0] rfl rfl rfl (by decide +kernel)) (perm_of (n := 1) (E := [(q_n2, .inl (g 2, 9, .inr (.inl a_n2)))]) (wc := []) (wr := [(q_n2, .inl (g 2, 9, .inr (.inl a_n2)))]) [] [0] rfl rfl rfl (by decide +kernel)) rfl OW_fst
          refine z_gS (rest := []) (ws' := ([(q_n2, .inl (g 2, 9, .inr (.inl a_n2)))] ++ OW g ax ad o17.2)) X (KF_ok ev) (kc_of (KF_ok ev) (fun _ _ _ q => q) hK hA f19.1) hA k_L_sum (c_L_sum l hfl ev D g ad ax x o17 e18) ql_L_L_sum dL_undone_385 f19.1 f19.2 rfl rfl ⟨Nat.le_of_ble_eq_true rfl, Nat.le_of_ble_eq_true rfl, rfl, rfl, (Nat.le_trans (m := 9993) (by first | exact Nat.le_of_ble_eq_true rfl | omega) (Nat.le_of_ble_eq_true rfl)), (Nat.le_trans (m := 63641) (by first | exact Nat.le_of_ble_eq_true rfl | omega) (Nat.le_of_ble_eq_true rfl))⟩ (Nat.le_of_ble_eq_true rfl) ?_
          refine z_aload_n X 2 dL_undone_388 rfl rfl ?_
          refine z_iload_n X 3 dL_undone_389 rfl rfl ?_
          refine z_laldG (q0 := 0) X IW_P dL_undone_390 rfl h (fun h => ?_)
          refine z_lcmp X dL_undone_391 ?_
          refine z_if_eq X 397 dL_undone_392 (by decide) h (fun _ h => ?_) (fun _ h => ?_)
          · refine z_widen (k := (c10 + 862)) (n := (s10 + 5632)) (by first | exact Nat.le_of_ble_eq_true rfl | omega) (by first | exact Nat.le_of_ble_eq_true rfl | omega) ?_
            exact H397 q_n2 x3 x4 x7 o17.2 a_n2 h
          · cases h
      refine z_iload X 4 dL_undone_10 rfl ?_
      refine z_bipush X (7 : Int32) dL_undone_12 (by decide) ?_
      refine z_icmp_ge X 416 dL_undone_14 (by decide) h (fun _ h => ?_) (fun _ h => ?_)
      · refine z_widen (k := 6897) (n := 45065) (by omega) (by omega) ?_
        refine z_iload_n X 3 dL_undone_416 rfl rfl ?_
        refine z_iconst X (1 : Int32) dL_undone_417 (by decide) ?_
        refine z_isub X dL_undone_418 ?_
        refine z_istore X [(4, .int (x3 - (1 : Int32))), (0, .ref ev.b), (1, .ref (ax 0)), (2, .ref q_n2), (3, .int x3)] dL_undone_419 (by decide) rfl ?_
        refine z_sub (lv' := [(1, .ref (ax 0)), (2, .ref q_n2), (4, .int (x3 - (1 : Int32)))]) [2, 3, 0] rfl ?_
        exact H421 8 q_n2 (x3 - (1 : Int32)) x a_n2 _ _ (by first | exact Nat.le_of_ble_eq_true rfl | omega) (by first | exact Nat.le_of_ble_eq_true rfl | omega) h
      · refine z_aload_n X 0 dL_undone_17 rfl rfl ?_
        refine z_bipush X (30 : Int32) dL_undone_18 (by decide) ?_
        refine z_iload X 4 dL_undone_20 rfl ?_
        refine z_iadd X dL_undone_22 ?_
        obtain ⟨o7, e8, h⟩ := bnd_p h
        have f9 : bkc ([(q_n2, .inl (g 2, 9, .inr (.inl a_n2)))] ++ OW g ax ad x) [] ∧ bk ([(q_n2, .inl (g 2, 9, .inr (.inl a_n2)))] ++ OW g ax ad x) ([(q_n2, .inl (g 2, 9, .inr (.inl a_n2)))] ++ OW g ax ad x) [] [] := ⟨bkc_nil, bk_nil⟩
        refine z_gS (rest := []) (ws' := ([(q_n2, .inl (g 2, 9, .inr (.inl a_n2)))] ++ OW g ax ad x)) X (KF_ok ev) (kc_of (KF_ok ev) (fun _ _ _ q => q) hK hA f9.1) hA k_L_cell (c_L_cell l hfl ev D g ((30 : Int32) + x4) o7 e8) ql_L_L_cell dL_undone_23 f9.1 f9.2 rfl rfl ⟨Nat.le_of_ble_eq_true rfl, Nat.le_of_ble_eq_true rfl, rfl, rfl, (Nat.le_trans (m := 9993) (by first | exact Nat.le_of_ble_eq_true rfl | omega) (Nat.le_of_ble_eq_true rfl)), (Nat.le_trans (m := 63641) (by first | exact Nat.le_of_ble_eq_true rfl | omega) (Nat.le_of_ble_eq_true rfl))⟩ (Nat.le_of_ble_eq_true rfl) ?_
        refine z_iconst X (1 : Int32) dL_undone_26 (by decide) ?_
        refine z_iushr X dL_undone_27 ?_
        refine z_istore X [(5, .int (ushr o7 (1 : Int32))), (0, .ref ev.b), (1, .ref (ax 0)), (2, .ref q_n2), (3, .int x3), (4, .int x4)] dL_undone_28 (by decide) rfl ?_
        refine z_iload X 0 dL_undone_30 rfl ?_
        refine z_iconst X (4 : Int32) dL_undone_32 (by decide) ?_
        refine z_iushr X dL_undone_33 ?_
        refine z_istore X [(6, .int (ushr (ushr o7 (1 : Int32)) (4 : Int32))), (5, .int (ushr o7 (1 : Int32))), (0, .ref ev.b), (1, .ref (ax 0)), (2, .ref q_n2), (3, .int x3), (4, .int x4)] dL_undone_34 (by decide) rfl ?_
        refine z_aload_n X 4 dL_undone_36 rfl rfl ?_
        refine z_iload_n X 5 dL_undone_37 rfl rfl ?_
        refine z_aload_n X 3 dL_undone_38 rfl rfl ?_
        obtain ⟨o10, e11, h⟩ := bnd_p h
        have f12 := bk_appP (X := OW g ax ad x) (X' := OW g ax ad o10.2) (perm_of (n := 1) (E := [(q_n2, .inl (g 2, 9, .inr (.inl a_n2)))]) (wc := []) (wr := [(q_n2, .inl (g 2, 9, .inr (.inl a_n2)))]) [] [0] rfl rfl rfl (by decide +kernel)) (perm_of (n := 1) (E := [(q_n2, .inl (g 2, 9, .inr (.inl a_n2)))]) (wc := []) (wr := [(q_n2, .inl (g 2, 9, .inr (.inl a_n2)))]) [] [0] rfl rfl rfl (by decide +kernel)) rfl OW_fst
        refine z_gS (rest := [.int x3, .ref q_n2]) (ws' := ([(q_n2, .inl (g 2, 9, .inr (.inl a_n2)))] ++ OW g ax ad o10.2)) X (KF_ok ev) (kc_of (KF_ok ev) (fun _ _ _ q => q) hK hA f12.1) hA k_L_sum (c_L_sum l hfl ev D g ad ax x o10 e11) ql_L_L_sum dL_undone_39 f12.1 f12.2 rfl rfl ⟨Nat.le_of_ble_eq_true rfl, Nat.le_of_ble_eq_true rfl, rfl, rfl, (Nat.le_trans (m := 9993) (by first | exact Nat.le_of_ble_eq_true rfl | omega) (Nat.le_of_ble_eq_true rfl)), (Nat.le_trans (m := 63641) (by first | exact Nat.le_of_ble_eq_true rfl | omega) (Nat.le_of_ble_eq_true rfl))⟩ (Nat.le_of_ble_eq_true rfl) ?_
        refine z_lastG (q0 := 0) (ws' := ([(q_n2, .inl (g 2, 9, .inr (.inl (vp_updL a_n2 x3.toNatClampNeg o10.1))))] ++ OW g ax ad o10.2)) X dL_undone_42 rfl h rfl (fun h => ?_)
        refine z_iload X 1 dL_undone_43 rfl ?_
        refine z_bipush X (11 : Int32) dL_undone_45 (by decide) ?_
        refine z_irem X dL_undone_47 (by decide) ?_
        by_cases n13 : ((ushr o7 (1 : Int32)) - (ushr o7 (1 : Int32)) / (11 : Int32) * (11 : Int32)) = (0 : Int32)
        · have h := brn_t h n13
          refine z_tin (off := 56) 104 X dL_undone_48 (sw_eq (k := 0) n13 (by decide)) (by decide) (by decide) (by decide) (by decide) ?_
          refine z_aload_n X 3 dL_undone_104 rfl rfl ?_
          refine z_iload X 0 dL_undone_105 rfl ?_
          refine z_bipush X (66 : Int32) dL_undone_107 (by decide) ?_
          refine z_irem X dL_undone_109 (by decide) ?_
          refine z_iload X 0 dL_undone_110 rfl ?_
          refine z_bipush X (7 : Int32) dL_undone_112 (by decide) ?_
          refine z_iushr X dL_undone_114 ?_
          refine z_bipush X (25 : Int32) dL_undone_115 (by decide) ?_
          refine z_irem X dL_undone_117 (by decide) ?_
          refine z_iload X 0 dL_undone_118 rfl ?_
          refine z_bipush X (12 : Int32) dL_undone_120 (by decide) ?_
          refine z_iushr X dL_undone_122 ?_
          refine z_bipush X (25 : Int32) dL_undone_123 (by decide) ?_
          refine z_irem X dL_undone_125 (by decide) ?_
          obtain ⟨o14, e15, h⟩ := bnd_p h
          have f16 := bk_appP (X := OW g ax ad o10.2) (X' := OW g ax ad o14.2) (perm_of (n := 1) (E := [(q_n2, .inl (g 2, 9, .inr (.inl (vp_updL a_n2 x3.toNatClampNeg o10.1))))]) (wc := []) (wr := [(q_n2, .inl (g 2, 9, .inr (.inl (vp_updL a_n2 x3.toNatClampNeg o10.1))))]) [] [0] rfl rfl rfl (by decide +kernel)) (perm_of (n := 1) (E := [(q_n2, .inl (g 2, 9, .inr (.inl (vp_updL a_n2 x3.toNatClampNeg o10.1))))]) (wc := []) (wr := [(q_n2, .inl (g 2, 9, .inr (.inl (vp_updL a_n2 x3.toNatClampNeg o10.1))))]) [] [0] rfl rfl rfl (by decide +kernel)) rfl OW_fst
          refine z_gSH (rest := []) (ws' := ([(q_n2, .inl (g 2, 9, .inr (.inl (vp_updL a_n2 x3.toNatClampNeg o10.1))))] ++ OW g ax ad o14.2)) X (KF_ok ev) (kc_of (KF_ok ev) (fun _ _ _ q => q) hK hA f16.1) hA k_L_house (c_L_house l hfl ev D g ad ax ((ushr (ushr o7 (1 : Int32)) (4 : Int32)) - (ushr (ushr o7 (1 : Int32)) (4 : Int32)) / (66 : Int32) * (66 : Int32)) ((ushr (ushr (ushr o7 (1 : Int32)) (4 : Int32)) (7 : Int32)) - (ushr (ushr (ushr o7 (1 : Int32)) (4 : Int32)) (7 : Int32)) / (25 : Int32) * (25 : Int32)) ((ushr (ushr (ushr o7 (1 : Int32)) (4 : Int32)) (12 : Int32)) - (ushr (ushr (ushr o7 (1 : Int32)) (4 : Int32)) (12 : Int32)) / (25 : Int32) * (25 : Int32)) o10.2 o14 e15) ql_L_L_house dL_undone_126 f16.1 f16.2 rfl rfl ⟨Nat.le_of_ble_eq_true rfl, Nat.le_of_ble_eq_true rfl, rfl, rfl, (Nat.le_trans (m := 9993) (by first | exact Nat.le_of_ble_eq_true rfl | omega) (Nat.le_of_ble_eq_true rfl)), (Nat.le_trans (m := 63641) (by first | exact Nat.le_of_ble_eq_true rfl | omega) (Nat.le_of_ble_eq_true rfl))⟩ (Nat.le_of_ble_eq_true rfl) ?_
          refine z_istore X [(7, .int o14.1), (6, .int (ushr (ushr o7 (1 : Int32)) (4 : Int32))), (5, .int (ushr o7 (1 : Int32))), (0, .ref ev.b), (1, .ref (ax 0)), (2, .ref q_n2), (3, .int x3), (4, .int x4)] dL_undone_129 (by decide) rfl ?_
          refine z_goto X 379 dL_undone_131 (by decide) ?_
          refine z_widen (k := (c10 + 476)) (n := (s10 + 3316)) (by first | exact Nat.le_of_ble_eq_true rfl | omega) (by first | exact Nat.le_of_ble_eq_true rfl | omega) ?_
          refine z_sub (lv' := [(0, .ref ev.b), (1, .ref (ax 0)), (2, .ref q_n2), (3, .int x3), (4, .int x4), (7, .int o14.1)]) [3, 4, 5, 6, 7, 0] rfl ?_
          exact H379 q_n2 x3 x4 o14.1 o14.2 (vp_updL a_n2 x3.toNatClampNeg o10.1) h
        have h := brn_f h n13
        by_cases n20 : ((ushr o7 (1 : Int32)) - (ushr o7 (1 : Int32)) / (11 : Int32) * (11 : Int32)) = (1 : Int32)
        · have h := brn_t h n20
          refine z_tin (off := 86) 134 X dL_undone_48 (sw_eq (k := 1) n20 (by decide)) (by decide) (by decide) (by decide) (by decide) ?_
          refine z_aload_n X 3 dL_undone_134 rfl rfl ?_
          refine z_iload X 0 dL_undone_135 rfl ?_
          refine z_bipush X (8 : Int32) dL_undone_137 (by decide) ?_
          refine z_irem X dL_undone_139 (by decide) ?_
          obtain ⟨o21, e22, h⟩ := bnd_p h
          have f23 := bk_appP (X := OW g ax ad o10.2) (X' := OW g ax ad o21.2) (perm_of (n := 1) (E := [(q_n2, .inl (g 2, 9, .inr (.inl (vp_updL a_n2 x3.toNatClampNeg o10.1))))]) (wc := []) (wr := [(q_n2, .inl (g 2, 9, .inr (.inl (vp_updL a_n2 x3.toNatClampNeg o10.1))))]) [] [0] rfl rfl rfl (by decide +kernel)) (perm_of (n := 1) (E := [(q_n2, .inl (g 2, 9, .inr (.inl (vp_updL a_n2 x3.toNatClampNeg o10.1))))]) (wc := []) (wr := [(q_n2, .inl (g 2, 9, .inr (.inl (vp_updL a_n2 x3.toNatClampNeg o10.1))))]) [] [0] rfl rfl rfl (by decide +kernel)) rfl OW_fst
          refine z_gSH (rest := []) (ws' := ([(q_n2, .inl (g 2, 9, .inr (.inl (vp_updL a_n2 x3.toNatClampNeg o10.1))))] ++ OW g ax ad o21.2)) X (KF_ok ev) (kc_of (KF_ok ev) (fun _ _ _ q => q) hK hA f23.1) hA k_L_goAway (c_L_goAway l hfl ev D g ad ax ((ushr (ushr o7 (1 : Int32)) (4 : Int32)) - (ushr (ushr o7 (1 : Int32)) (4 : Int32)) / (8 : Int32) * (8 : Int32)) o10.2 o21 e22) ql_L_L_goAway dL_undone_140 f23.1 f23.2 rfl rfl ⟨Nat.le_of_ble_eq_true rfl, Nat.le_of_ble_eq_true rfl, rfl, rfl, (Nat.le_trans (m := 9993) (by first | exact Nat.le_of_ble_eq_true rfl | omega) (Nat.le_of_ble_eq_true rfl)), (Nat.le_trans (m := 63641) (by first | exact Nat.le_of_ble_eq_true rfl | omega) (Nat.le_of_ble_eq_true rfl))⟩ (Nat.le_of_ble_eq_true rfl) ?_
          refine z_istore X [(7, .int o21.1), (6, .int (ushr (ushr o7 (1 : Int32)) (4 : Int32))), (5, .int (ushr o7 (1 : Int32))), (0, .ref ev.b), (1, .ref (ax 0)), (2, .ref q_n2), (3, .int x3), (4, .int x4)] dL_undone_143 (by decide) rfl ?_
          refine z_goto X 379 dL_undone_145 (by decide) ?_
          refine z_widen (k := (c10 + 476)) (n := (s10 + 3316)) (by first | exact Nat.le_of_ble_eq_true rfl | omega) (by first | exact Nat.le_of_ble_eq_true rfl | omega) ?_
          refine z_sub (lv' := [(0, .ref ev.b), (1, .ref (ax 0)), (2, .ref q_n2), (3, .int x3), (4, .int x4), (7, .int o21.1)]) [3, 4, 5, 6, 7, 0] rfl ?_
          exact H379 q_n2 x3 x4 o21.1 o21.2 (vp_updL a_n2 x3.toNatClampNeg o10.1) h
        have h := brn_f h n20
        by_cases n24 : ((ushr o7 (1 : Int32)) - (ushr o7 (1 : Int32)) / (11 : Int32) * (11 : Int32)) = (2 : Int32)
        · have h := brn_t h n24
          refine z_tin (off := 100) 148 X dL_undone_48 (sw_eq (k := 2) n24 (by decide)) (by decide) (by decide) (by decide) (by decide) ?_
          refine z_aload_n X 3 dL_undone_148 rfl rfl ?_
          refine z_iload X 0 dL_undone_149 rfl ?_
          refine z_bipush X (66 : Int32) dL_undone_151 (by decide) ?_
          refine z_irem X dL_undone_153 (by decide) ?_
          obtain ⟨o25, e26, h⟩ := bnd_p h
          have f27 := bk_appP (X := OW g ax ad o10.2) (X' := OW g ax ad o25.2) (perm_of (n := 1) (E := [(q_n2, .inl (g 2, 9, .inr (.inl (vp_updL a_n2 x3.toNatClampNeg o10.1))))]) (wc := []) (wr := [(q_n2, .inl (g 2, 9, .inr (.inl (vp_updL a_n2 x3.toNatClampNeg o10.1))))]) [] [0] rfl rfl rfl (by decide +kernel)) (perm_of (n := 1) (E := [(q_n2, .inl (g 2, 9, .inr (.inl (vp_updL a_n2 x3.toNatClampNeg o10.1))))]) (wc := []) (wr := [(q_n2, .inl (g 2, 9, .inr (.inl (vp_updL a_n2 x3.toNatClampNeg o10.1))))]) [] [0] rfl rfl rfl (by decide +kernel)) rfl OW_fst
          refine z_gSH (rest := []) (ws' := ([(q_n2, .inl (g 2, 9, .inr (.inl (vp_updL a_n2 x3.toNatClampNeg o10.1))))] ++ OW g ax ad o25.2)) X (KF_ok ev) (kc_of (KF_ok ev) (fun _ _ _ q => q) hK hA f27.1) hA k_L_block (c_L_block l hfl ev D g ad ax ((ushr (ushr o7 (1 : Int32)) (4 : Int32)) - (ushr (ushr o7 (1 : Int32)) (4 : Int32)) / (66 : Int32) * (66 : Int32)) o10.2 o25 e26) ql_L_L_block dL_undone_154 f27.1 f27.2 rfl rfl ⟨Nat.le_of_ble_eq_true rfl, Nat.le_of_ble_eq_true rfl, rfl, rfl, (Nat.le_trans (m := 9993) (by first | exact Nat.le_of_ble_eq_true rfl | omega) (Nat.le_of_ble_eq_true rfl)), (Nat.le_trans (m := 63641) (by first | exact Nat.le_of_ble_eq_true rfl | omega) (Nat.le_of_ble_eq_true rfl))⟩ (Nat.le_of_ble_eq_true rfl) ?_
          refine z_istore X [(7, .int o25.1), (6, .int (ushr (ushr o7 (1 : Int32)) (4 : Int32))), (5, .int (ushr o7 (1 : Int32))), (0, .ref ev.b), (1, .ref (ax 0)), (2, .ref q_n2), (3, .int x3), (4, .int x4)] dL_undone_157 (by decide) rfl ?_
          refine z_goto X 379 dL_undone_159 (by decide) ?_
          refine z_widen (k := (c10 + 476)) (n := (s10 + 3316)) (by first | exact Nat.le_of_ble_eq_true rfl | omega) (by first | exact Nat.le_of_ble_eq_true rfl | omega) ?_
          refine z_sub (lv' := [(0, .ref ev.b), (1, .ref (ax 0)), (2, .ref q_n2), (3, .int x3), (4, .int x4), (7, .int o25.1)]) [3, 4, 5, 6, 7, 0] rfl ?_
          exact H379 q_n2 x3 x4 o25.1 o25.2 (vp_updL a_n2 x3.toNatClampNeg o10.1) h
        have h := brn_f h n24
        by_cases n28 : ((ushr o7 (1 : Int32)) - (ushr o7 (1 : Int32)) / (11 : Int32) * (11 : Int32)) = (3 : Int32)
        · have h := brn_t h n28
          refine z_tin (off := 114) 162 X dL_undone_48 (sw_eq (k := 3) n28 (by decide)) (by decide) (by decide) (by decide) (by decide) ?_
          refine z_aload_n X 3 dL_undone_162 rfl rfl ?_
          refine z_iload X 0 dL_undone_163 rfl ?_
          refine z_bipush X (9 : Int32) dL_undone_165 (by decide) ?_
          refine z_irem X dL_undone_167 (by decide) ?_
          refine z_iload X 0 dL_undone_168 rfl ?_
          refine z_iconst X (4 : Int32) dL_undone_170 (by decide) ?_
          refine z_iushr X dL_undone_171 ?_
          refine z_bipush X (8 : Int32) dL_undone_172 (by decide) ?_
          refine z_irem X dL_undone_174 (by decide) ?_
          refine z_iload X 0 dL_undone_175 rfl ?_
          refine z_bipush X (7 : Int32) dL_undone_177 (by decide) ?_
          refine z_iushr X dL_undone_179 ?_
          refine z_bipush X (9 : Int32) dL_undone_180 (by decide) ?_
          refine z_irem X dL_undone_182 (by decide) ?_
          obtain ⟨o29, e30, h⟩ := bnd_p h
          have f31 := bk_appP (X := OW g ax ad o10.2) (X' := OW g ax ad o29.2) (perm_of (n := 1) (E := [(q_n2, .inl (g 2, 9, .inr (.inl (vp_updL a_n2 x3.toNatClampNeg o10.1))))]) (wc := []) (wr := [(q_n2, .inl (g 2, 9, .inr (.inl (vp_updL a_n2 x3.toNatClampNeg o10.1))))]) [] [0] rfl rfl rfl (by decide +kernel)) (perm_of (n := 1) (E := [(q_n2, .inl (g 2, 9, .inr (.inl (vp_updL a_n2 x3.toNatClampNeg o10.1))))]) (wc := []) (wr := [(q_n2, .inl (g 2, 9, .inr (.inl (vp_updL a_n2 x3.toNatClampNeg o10.1))))]) [] [0] rfl rfl rfl (by decide +kernel)) rfl OW_fst
          refine z_gSH (rest := []) (ws' := ([(q_n2, .inl (g 2, 9, .inr (.inl (vp_updL a_n2 x3.toNatClampNeg o10.1))))] ++ OW g ax ad o29.2)) X (KF_ok ev) (kc_of (KF_ok ev) (fun _ _ _ q => q) hK hA f31.1) hA k_L_hall (c_L_hall l hfl ev D g ad ax ((ushr (ushr o7 (1 : Int32)) (4 : Int32)) - (ushr (ushr o7 (1 : Int32)) (4 : Int32)) / (9 : Int32) * (9 : Int32)) ((ushr (ushr (ushr o7 (1 : Int32)) (4 : Int32)) (4 : Int32)) - (ushr (ushr (ushr o7 (1 : Int32)) (4 : Int32)) (4 : Int32)) / (8 : Int32) * (8 : Int32)) ((ushr (ushr (ushr o7 (1 : Int32)) (4 : Int32)) (7 : Int32)) - (ushr (ushr (ushr o7 (1 : Int32)) (4 : Int32)) (7 : Int32)) / (9 : Int32) * (9 : Int32)) o10.2 o29 e30) ql_L_L_hall dL_undone_183 f31.1 f31.2 rfl rfl ⟨Nat.le_of_ble_eq_true rfl, Nat.le_of_ble_eq_true rfl, rfl, rfl, (Nat.le_trans (m := 9993) (by first | exact Nat.le_of_ble_eq_true rfl | omega) (Nat.le_of_ble_eq_true rfl)), (Nat.le_trans (m := 63641) (by first | exact Nat.le_of_ble_eq_true rfl | omega) (Nat.le_of_ble_eq_true rfl))⟩ (Nat.le_of_ble_eq_true rfl) ?_
          refine z_istore X [(7, .int o29.1), (6, .int (ushr (ushr o7 (1 : Int32)) (4 : Int32))), (5, .int (ushr o7 (1 : Int32))), (0, .ref ev.b), (1, .ref (ax 0)), (2, .ref q_n2), (3, .int x3), (4, .int x4)] dL_undone_186 (by decide) rfl ?_
          refine z_goto X 379 dL_undone_188 (by decide) ?_
          refine z_widen (k := (c10 + 476)) (n := (s10 + 3316)) (by first | exact Nat.le_of_ble_eq_true rfl | omega) (by first | exact Nat.le_of_ble_eq_true rfl | omega) ?_
          refine z_sub (lv' := [(0, .ref ev.b), (1, .ref (ax 0)), (2, .ref q_n2), (3, .int x3), (4, .int x4), (7, .int o29.1)]) [3, 4, 5, 6, 7, 0] rfl ?_
          exact H379 q_n2 x3 x4 o29.1 o29.2 (vp_updL a_n2 x3.toNatClampNeg o10.1) h
        have h := brn_f h n28
        by_cases n32 : ((ushr o7 (1 : Int32)) - (ushr o7 (1 : Int32)) / (11 : Int32) * (11 : Int32)) = (4 : Int32)
        · have h := brn_t h n32
          refine z_tin (off := 143) 191 X dL_undone_48 (sw_eq (k := 4) n32 (by decide)) (by decide) (by decide) (by decide) (by decide) ?_
          refine z_aload_n X 3 dL_undone_191 rfl rfl ?_
          refine z_iload X 0 dL_undone_192 rfl ?_
          refine z_iconst X (5 : Int32) dL_undone_194 (by decide) ?_
          refine z_irem X dL_undone_195 (by decide) ?_
          obtain ⟨o33, e34, h⟩ := bnd_p h
          have f35 := bk_appP (X := OW g ax ad o10.2) (X' := OW g ax ad o33.2) (perm_of (n := 1) (E := [(q_n2, .inl (g 2, 9, .inr (.inl (vp_updL a_n2 x3.toNatClampNeg o10.1))))]) (wc := []) (wr := [(q_n2, .inl (g 2, 9, .inr (.inl (vp_updL a_n2 x3.toNatClampNeg o10.1))))]) [] [0] rfl rfl rfl (by decide +kernel)) (perm_of (n := 1) (E := [(q_n2, .inl (g 2, 9, .inr (.inl (vp_updL a_n2 x3.toNatClampNeg o10.1))))]) (wc := []) (wr := [(q_n2, .inl (g 2, 9, .inr (.inl (vp_updL a_n2 x3.toNatClampNeg o10.1))))]) [] [0] rfl rfl rfl (by decide +kernel)) rfl OW_fst
          refine z_gSH (rest := []) (ws' := ([(q_n2, .inl (g 2, 9, .inr (.inl (vp_updL a_n2 x3.toNatClampNeg o10.1))))] ++ OW g ax ad o33.2)) X (KF_ok ev) (kc_of (KF_ok ev) (fun _ _ _ q => q) hK hA f35.1) hA k_L_dropHall (c_L_dropHall l hfl ev D g ad ax ((ushr (ushr o7 (1 : Int32)) (4 : Int32)) - (ushr (ushr o7 (1 : Int32)) (4 : Int32)) / (5 : Int32) * (5 : Int32)) o10.2 o33 e34) ql_L_L_dropHall dL_undone_196 f35.1 f35.2 rfl rfl ⟨Nat.le_of_ble_eq_true rfl, Nat.le_of_ble_eq_true rfl, rfl, rfl, (Nat.le_trans (m := 9993) (by first | exact Nat.le_of_ble_eq_true rfl | omega) (Nat.le_of_ble_eq_true rfl)), (Nat.le_trans (m := 63641) (by first | exact Nat.le_of_ble_eq_true rfl | omega) (Nat.le_of_ble_eq_true rfl))⟩ (Nat.le_of_ble_eq_true rfl) ?_
          refine z_istore X [(7, .int o33.1), (6, .int (ushr (ushr o7 (1 : Int32)) (4 : Int32))), (5, .int (ushr o7 (1 : Int32))), (0, .ref ev.b), (1, .ref (ax 0)), (2, .ref q_n2), (3, .int x3), (4, .int x4)] dL_undone_199 (by decide) rfl ?_
          refine z_goto X 379 dL_undone_201 (by decide) ?_
          refine z_widen (k := (c10 + 476)) (n := (s10 + 3316)) (by first | exact Nat.le_of_ble_eq_true rfl | omega) (by first | exact Nat.le_of_ble_eq_true rfl | omega) ?_
          refine z_sub (lv' := [(0, .ref ev.b), (1, .ref (ax 0)), (2, .ref q_n2), (3, .int x3), (4, .int x4), (7, .int o33.1)]) [3, 4, 5, 6, 7, 0] rfl ?_
          exact H379 q_n2 x3 x4 o33.1 o33.2 (vp_updL a_n2 x3.toNatClampNeg o10.1) h
        have h := brn_f h n32
        by_cases n36 : ((ushr o7 (1 : Int32)) - (ushr o7 (1 : Int32)) / (11 : Int32) * (11 : Int32)) = (5 : Int32)
        · have h := brn_t h n36
          refine z_tin (off := 156) 204 X dL_undone_48 (sw_eq (k := 5) n36 (by decide)) (by decide) (by decide) (by decide) (by decide) ?_
          refine z_aload_n X 3 dL_undone_204 rfl rfl ?_
          refine z_iload X 0 dL_undone_205 rfl ?_
          refine z_bipush X (101 : Int32) dL_undone_207 (by decide) ?_
          refine z_irem X dL_undone_209 (by decide) ?_
          obtain ⟨o37, e38, h⟩ := bnd_p h
          have f39 := bk_appP (X := OW g ax ad o10.2) (X' := OW g ax ad o37.2) (perm_of (n := 1) (E := [(q_n2, .inl (g 2, 9, .inr (.inl (vp_updL a_n2 x3.toNatClampNeg o10.1))))]) (wc := []) (wr := [(q_n2, .inl (g 2, 9, .inr (.inl (vp_updL a_n2 x3.toNatClampNeg o10.1))))]) [] [0] rfl rfl rfl (by decide +kernel)) (perm_of (n := 1) (E := [(q_n2, .inl (g 2, 9, .inr (.inl (vp_updL a_n2 x3.toNatClampNeg o10.1))))]) (wc := []) (wr := [(q_n2, .inl (g 2, 9, .inr (.inl (vp_updL a_n2 x3.toNatClampNeg o10.1))))]) [] [0] rfl rfl rfl (by decide +kernel)) rfl OW_fst
          refine z_gSH (rest := []) (ws' := ([(q_n2, .inl (g 2, 9, .inr (.inl (vp_updL a_n2 x3.toNatClampNeg o10.1))))] ++ OW g ax ad o37.2)) X (KF_ok ev) (kc_of (KF_ok ev) (fun _ _ _ q => q) hK hA f39.1) hA k_L_pass (c_L_pass l hfl ev D g ad ax ((ushr (ushr o7 (1 : Int32)) (4 : Int32)) - (ushr (ushr o7 (1 : Int32)) (4 : Int32)) / (101 : Int32) * (101 : Int32)) o10.2 o37 e38) ql_L_L_pass dL_undone_210 f39.1 f39.2 rfl rfl ⟨Nat.le_of_ble_eq_true rfl, Nat.le_of_ble_eq_true rfl, rfl, rfl, (Nat.le_trans (m := 9993) (by first | exact Nat.le_of_ble_eq_true rfl | omega) (Nat.le_of_ble_eq_true rfl)), (Nat.le_trans (m := 63641) (by first | exact Nat.le_of_ble_eq_true rfl | omega) (Nat.le_of_ble_eq_true rfl))⟩ (Nat.le_of_ble_eq_true rfl) ?_
          refine z_istore X [(7, .int o37.1), (6, .int (ushr (ushr o7 (1 : Int32)) (4 : Int32))), (5, .int (ushr o7 (1 : Int32))), (0, .ref ev.b), (1, .ref (ax 0)), (2, .ref q_n2), (3, .int x3), (4, .int x4)] dL_undone_213 (by decide) rfl ?_
          refine z_goto X 379 dL_undone_215 (by decide) ?_
          refine z_widen (k := (c10 + 476)) (n := (s10 + 3316)) (by first | exact Nat.le_of_ble_eq_true rfl | omega) (by first | exact Nat.le_of_ble_eq_true rfl | omega) ?_
          refine z_sub (lv' := [(0, .ref ev.b), (1, .ref (ax 0)), (2, .ref q_n2), (3, .int x3), (4, .int x4), (7, .int o37.1)]) [3, 4, 5, 6, 7, 0] rfl ?_
          exact H379 q_n2 x3 x4 o37.1 o37.2 (vp_updL a_n2 x3.toNatClampNeg o10.1) h
        have h := brn_f h n36
        by_cases n40 : ((ushr o7 (1 : Int32)) - (ushr o7 (1 : Int32)) / (11 : Int32) * (11 : Int32)) = (6 : Int32)
        · have h := brn_t h n40
          refine z_tin (off := 170) 218 X dL_undone_48 (sw_eq (k := 6) n40 (by decide)) (by decide) (by decide) (by decide) (by decide) ?_
          refine z_aload_n X 3 dL_undone_218 rfl rfl ?_
          refine z_iload X 0 dL_undone_219 rfl ?_
          refine z_bipush X (8 : Int32) dL_undone_221 (by decide) ?_
          refine z_irem X dL_undone_223 (by decide) ?_
          refine z_iload X 0 dL_undone_224 rfl ?_
          refine z_iconst X (3 : Int32) dL_undone_226 (by decide) ?_
          refine z_iushr X dL_undone_227 ?_
          refine z_iconst X (5 : Int32) dL_undone_228 (by decide) ?_
          refine z_irem X dL_undone_229 (by decide) ?_
          refine z_iload X 0 dL_undone_230 rfl ?_
          refine z_bipush X (6 : Int32) dL_undone_232 (by decide) ?_
          refine z_iushr X dL_undone_234 ?_
          refine z_iconst X (5 : Int32) dL_undone_235 (by decide) ?_
          refine z_irem X dL_undone_236 (by decide) ?_
          obtain ⟨o41, e42, h⟩ := bnd_p h
          have f43 := bk_appP (X := OW g ax ad o10.2) (X' := OW g ax ad o41.2) (perm_of (n := 1) (E := [(q_n2, .inl (g 2, 9, .inr (.inl (vp_updL a_n2 x3.toNatClampNeg o10.1))))]) (wc := []) (wr := [(q_n2, .inl (g 2, 9, .inr (.inl (vp_updL a_n2 x3.toNatClampNeg o10.1))))]) [] [0] rfl rfl rfl (by decide +kernel)) (perm_of (n := 1) (E := [(q_n2, .inl (g 2, 9, .inr (.inl (vp_updL a_n2 x3.toNatClampNeg o10.1))))]) (wc := []) (wr := [(q_n2, .inl (g 2, 9, .inr (.inl (vp_updL a_n2 x3.toNatClampNeg o10.1))))]) [] [0] rfl rfl rfl (by decide +kernel)) rfl OW_fst
          refine z_gSH (rest := []) (ws' := ([(q_n2, .inl (g 2, 9, .inr (.inl (vp_updL a_n2 x3.toNatClampNeg o10.1))))] ++ OW g ax ad o41.2)) X (KF_ok ev) (kc_of (KF_ok ev) (fun _ _ _ q => q) hK hA f43.1) hA k_L_ring (c_L_ring l hfl ev D g ad ax ((ushr (ushr o7 (1 : Int32)) (4 : Int32)) - (ushr (ushr o7 (1 : Int32)) (4 : Int32)) / (8 : Int32) * (8 : Int32)) ((ushr (ushr (ushr o7 (1 : Int32)) (4 : Int32)) (3 : Int32)) - (ushr (ushr (ushr o7 (1 : Int32)) (4 : Int32)) (3 : Int32)) / (5 : Int32) * (5 : Int32)) ((ushr (ushr (ushr o7 (1 : Int32)) (4 : Int32)) (6 : Int32)) - (ushr (ushr (ushr o7 (1 : Int32)) (4 : Int32)) (6 : Int32)) / (5 : Int32) * (5 : Int32)) o10.2 o41 e42) ql_L_L_ring dL_undone_237 f43.1 f43.2 rfl rfl ⟨Nat.le_of_ble_eq_true rfl, Nat.le_of_ble_eq_true rfl, rfl, rfl, (Nat.le_trans (m := 9993) (by first | exact Nat.le_of_ble_eq_true rfl | omega) (Nat.le_of_ble_eq_true rfl)), (Nat.le_trans (m := 63641) (by first | exact Nat.le_of_ble_eq_true rfl | omega) (Nat.le_of_ble_eq_true rfl))⟩ (Nat.le_of_ble_eq_true rfl) ?_
          refine z_istore X [(7, .int o41.1), (6, .int (ushr (ushr o7 (1 : Int32)) (4 : Int32))), (5, .int (ushr o7 (1 : Int32))), (0, .ref ev.b), (1, .ref (ax 0)), (2, .ref q_n2), (3, .int x3), (4, .int x4)] dL_undone_240 (by decide) rfl ?_
          refine z_goto X 379 dL_undone_242 (by decide) ?_
          refine z_widen (k := (c10 + 476)) (n := (s10 + 3316)) (by first | exact Nat.le_of_ble_eq_true rfl | omega) (by first | exact Nat.le_of_ble_eq_true rfl | omega) ?_
          refine z_sub (lv' := [(0, .ref ev.b), (1, .ref (ax 0)), (2, .ref q_n2), (3, .int x3), (4, .int x4), (7, .int o41.1)]) [3, 4, 5, 6, 7, 0] rfl ?_
          exact H379 q_n2 x3 x4 o41.1 o41.2 (vp_updL a_n2 x3.toNatClampNeg o10.1) h
        have h := brn_f h n40
        by_cases n44 : ((ushr o7 (1 : Int32)) - (ushr o7 (1 : Int32)) / (11 : Int32) * (11 : Int32)) = (7 : Int32)
        · have h := brn_t h n44
          refine z_tin (off := 197) 245 X dL_undone_48 (sw_eq (k := 7) n44 (by decide)) (by decide) (by decide) (by decide) (by decide) ?_
          refine z_aload_n X 3 dL_undone_245 rfl rfl ?_
          refine z_iload X 0 dL_undone_246 rfl ?_
          refine z_bipush X (66 : Int32) dL_undone_248 (by decide) ?_
          refine z_irem X dL_undone_250 (by decide) ?_
          obtain ⟨o45, e46, h⟩ := bnd_p h
          have f47 := bk_appP (X := OW g ax ad o10.2) (X' := OW g ax ad o45.2) (perm_of (n := 1) (E := [(q_n2, .inl (g 2, 9, .inr (.inl (vp_updL a_n2 x3.toNatClampNeg o10.1))))]) (wc := []) (wr := [(q_n2, .inl (g 2, 9, .inr (.inl (vp_updL a_n2 x3.toNatClampNeg o10.1))))]) [] [0] rfl rfl rfl (by decide +kernel)) (perm_of (n := 1) (E := [(q_n2, .inl (g 2, 9, .inr (.inl (vp_updL a_n2 x3.toNatClampNeg o10.1))))]) (wc := []) (wr := [(q_n2, .inl (g 2, 9, .inr (.inl (vp_updL a_n2 x3.toNatClampNeg o10.1))))]) [] [0] rfl rfl rfl (by decide +kernel)) rfl OW_fst
          refine z_gSH (rest := []) (ws' := ([(q_n2, .inl (g 2, 9, .inr (.inl (vp_updL a_n2 x3.toNatClampNeg o10.1))))] ++ OW g ax ad o45.2)) X (KF_ok ev) (kc_of (KF_ok ev) (fun _ _ _ q => q) hK hA f47.1) hA k_L_post (c_L_post l hfl ev D g ad ax ((ushr (ushr o7 (1 : Int32)) (4 : Int32)) - (ushr (ushr o7 (1 : Int32)) (4 : Int32)) / (66 : Int32) * (66 : Int32)) o10.2 o45 e46) ql_L_L_post dL_undone_251 f47.1 f47.2 rfl rfl ⟨Nat.le_of_ble_eq_true rfl, Nat.le_of_ble_eq_true rfl, rfl, rfl, (Nat.le_trans (m := 9993) (by first | exact Nat.le_of_ble_eq_true rfl | omega) (Nat.le_of_ble_eq_true rfl)), (Nat.le_trans (m := 63641) (by first | exact Nat.le_of_ble_eq_true rfl | omega) (Nat.le_of_ble_eq_true rfl))⟩ (Nat.le_of_ble_eq_true rfl) ?_
          refine z_istore X [(7, .int o45.1), (6, .int (ushr (ushr o7 (1 : Int32)) (4 : Int32))), (5, .int (ushr o7 (1 : Int32))), (0, .ref ev.b), (1, .ref (ax 0)), (2, .ref q_n2), (3, .int x3), (4, .int x4)] dL_undone_254 (by decide) rfl ?_
          refine z_goto X 379 dL_undone_256 (by decide) ?_
          refine z_widen (k := (c10 + 476)) (n := (s10 + 3316)) (by first | exact Nat.le_of_ble_eq_true rfl | omega) (by first | exact Nat.le_of_ble_eq_true rfl | omega) ?_
          refine z_sub (lv' := [(0, .ref ev.b), (1, .ref (ax 0)), (2, .ref q_n2), (3, .int x3), (4, .int x4), (7, .int o45.1)]) [3, 4, 5, 6, 7, 0] rfl ?_
          exact H379 q_n2 x3 x4 o45.1 o45.2 (vp_updL a_n2 x3.toNatClampNeg o10.1) h
        have h := brn_f h n44
        by_cases n48 : ((ushr o7 (1 : Int32)) - (ushr o7 (1 : Int32)) / (11 : Int32) * (11 : Int32)) = (8 : Int32)
        · have h := brn_t h n48
          refine z_tin (off := 211) 259 X dL_undone_48 (sw_eq (k := 8) n48 (by decide)) (by decide) (by decide) (by decide) (by decide) ?_
          refine z_aload_n X 3 dL_undone_259 rfl rfl ?_
          refine z_iload X 0 dL_undone_260 rfl ?_
          refine z_iconst X (5 : Int32) dL_undone_262 (by decide) ?_
          refine z_irem X dL_undone_263 (by decide) ?_
          obtain ⟨o49, e50, h⟩ := bnd_p h
          have f51 := bk_appP (X := OW g ax ad o10.2) (X' := OW g ax ad o49.2) (perm_of (n := 1) (E := [(q_n2, .inl (g 2, 9, .inr (.inl (vp_updL a_n2 x3.toNatClampNeg o10.1))))]) (wc := []) (wr := [(q_n2, .inl (g 2, 9, .inr (.inl (vp_updL a_n2 x3.toNatClampNeg o10.1))))]) [] [0] rfl rfl rfl (by decide +kernel)) (perm_of (n := 1) (E := [(q_n2, .inl (g 2, 9, .inr (.inl (vp_updL a_n2 x3.toNatClampNeg o10.1))))]) (wc := []) (wr := [(q_n2, .inl (g 2, 9, .inr (.inl (vp_updL a_n2 x3.toNatClampNeg o10.1))))]) [] [0] rfl rfl rfl (by decide +kernel)) rfl OW_fst
          refine z_gSH (rest := []) (ws' := ([(q_n2, .inl (g 2, 9, .inr (.inl (vp_updL a_n2 x3.toNatClampNeg o10.1))))] ++ OW g ax ad o49.2)) X (KF_ok ev) (kc_of (KF_ok ev) (fun _ _ _ q => q) hK hA f51.1) hA k_L_dropPost (c_L_dropPost l hfl ev D g ad ax ((ushr (ushr o7 (1 : Int32)) (4 : Int32)) - (ushr (ushr o7 (1 : Int32)) (4 : Int32)) / (5 : Int32) * (5 : Int32)) o10.2 o49 e50) ql_L_L_dropPost dL_undone_264 f51.1 f51.2 rfl rfl ⟨Nat.le_of_ble_eq_true rfl, Nat.le_of_ble_eq_true rfl, rfl, rfl, (Nat.le_trans (m := 9993) (by first | exact Nat.le_of_ble_eq_true rfl | omega) (Nat.le_of_ble_eq_true rfl)), (Nat.le_trans (m := 63641) (by first | exact Nat.le_of_ble_eq_true rfl | omega) (Nat.le_of_ble_eq_true rfl))⟩ (Nat.le_of_ble_eq_true rfl) ?_
          refine z_istore X [(7, .int o49.1), (6, .int (ushr (ushr o7 (1 : Int32)) (4 : Int32))), (5, .int (ushr o7 (1 : Int32))), (0, .ref ev.b), (1, .ref (ax 0)), (2, .ref q_n2), (3, .int x3), (4, .int x4)] dL_undone_267 (by decide) rfl ?_
          refine z_goto X 379 dL_undone_269 (by decide) ?_
          refine z_widen (k := (c10 + 476)) (n := (s10 + 3316)) (by first | exact Nat.le_of_ble_eq_true rfl | omega) (by first | exact Nat.le_of_ble_eq_true rfl | omega) ?_
          refine z_sub (lv' := [(0, .ref ev.b), (1, .ref (ax 0)), (2, .ref q_n2), (3, .int x3), (4, .int x4), (7, .int o49.1)]) [3, 4, 5, 6, 7, 0] rfl ?_
          exact H379 q_n2 x3 x4 o49.1 o49.2 (vp_updL a_n2 x3.toNatClampNeg o10.1) h
        have h := brn_f h n48
        by_cases n52 : ((ushr o7 (1 : Int32)) - (ushr o7 (1 : Int32)) / (11 : Int32) * (11 : Int32)) = (9 : Int32)
        · have h := brn_t h n52
          refine z_tin (off := 224) 272 X dL_undone_48 (sw_eq (k := 9) n52 (by decide)) (by decide) (by decide) (by decide) (by decide) ?_
          refine z_aload_n X 3 dL_undone_272 rfl rfl ?_
          refine z_iload X 0 dL_undone_273 rfl ?_
          refine z_iconst X (4 : Int32) dL_undone_275 (by decide) ?_
          refine z_irem X dL_undone_276 (by decide) ?_
          refine z_iload X 0 dL_undone_277 rfl ?_
          refine z_iconst X (2 : Int32) dL_undone_279 (by decide) ?_
          refine z_iushr X dL_undone_280 ?_
          refine z_bipush X (17 : Int32) dL_undone_281 (by decide) ?_
          refine z_irem X dL_undone_283 (by decide) ?_
          obtain ⟨o53, e54, h⟩ := bnd_p h
          have f55 := bk_appP (X := OW g ax ad o10.2) (X' := OW g ax ad o53.2) (perm_of (n := 1) (E := [(q_n2, .inl (g 2, 9, .inr (.inl (vp_updL a_n2 x3.toNatClampNeg o10.1))))]) (wc := []) (wr := [(q_n2, .inl (g 2, 9, .inr (.inl (vp_updL a_n2 x3.toNatClampNeg o10.1))))]) [] [0] rfl rfl rfl (by decide +kernel)) (perm_of (n := 1) (E := [(q_n2, .inl (g 2, 9, .inr (.inl (vp_updL a_n2 x3.toNatClampNeg o10.1))))]) (wc := []) (wr := [(q_n2, .inl (g 2, 9, .inr (.inl (vp_updL a_n2 x3.toNatClampNeg o10.1))))]) [] [0] rfl rfl rfl (by decide +kernel)) rfl OW_fst
          refine z_gSH (rest := []) (ws' := ([(q_n2, .inl (g 2, 9, .inr (.inl (vp_updL a_n2 x3.toNatClampNeg o10.1))))] ++ OW g ax ad o53.2)) X (KF_ok ev) (kc_of (KF_ok ev) (fun _ _ _ q => q) hK hA f55.1) hA k_L_tell (c_L_tell l hfl ev D g ad ax ((ushr (ushr o7 (1 : Int32)) (4 : Int32)) - (ushr (ushr o7 (1 : Int32)) (4 : Int32)) / (4 : Int32) * (4 : Int32)) ((ushr (ushr (ushr o7 (1 : Int32)) (4 : Int32)) (2 : Int32)) - (ushr (ushr (ushr o7 (1 : Int32)) (4 : Int32)) (2 : Int32)) / (17 : Int32) * (17 : Int32)) o10.2 o53 e54) ql_L_L_tell dL_undone_284 f55.1 f55.2 rfl rfl ⟨Nat.le_of_ble_eq_true rfl, Nat.le_of_ble_eq_true rfl, rfl, rfl, (Nat.le_trans (m := 9993) (by first | exact Nat.le_of_ble_eq_true rfl | omega) (Nat.le_of_ble_eq_true rfl)), (Nat.le_trans (m := 63641) (by first | exact Nat.le_of_ble_eq_true rfl | omega) (Nat.le_of_ble_eq_true rfl))⟩ (Nat.le_of_ble_eq_true rfl) ?_
          refine z_istore X [(7, .int o53.1), (6, .int (ushr (ushr o7 (1 : Int32)) (4 : Int32))), (5, .int (ushr o7 (1 : Int32))), (0, .ref ev.b), (1, .ref (ax 0)), (2, .ref q_n2), (3, .int x3), (4, .int x4)] dL_undone_287 (by decide) rfl ?_
          refine z_goto X 379 dL_undone_289 (by decide) ?_
          refine z_widen (k := (c10 + 476)) (n := (s10 + 3316)) (by first | exact Nat.le_of_ble_eq_true rfl | omega) (by first | exact Nat.le_of_ble_eq_true rfl | omega) ?_
          refine z_sub (lv' := [(0, .ref ev.b), (1, .ref (ax 0)), (2, .ref q_n2), (3, .int x3), (4, .int x4), (7, .int o53.1)]) [3, 4, 5, 6, 7, 0] rfl ?_
          exact H379 q_n2 x3 x4 o53.1 o53.2 (vp_updL a_n2 x3.toNatClampNeg o10.1) h
        have h := brn_f h n52
        refine z_tdef 292 [0, 1, 2, 3, 4, 5, 6, 7, 8, 9] X dL_undone_48 (by decide) (by decide) (List.forall_mem_cons.mpr ⟨sw_ne n13 (by decide), List.forall_mem_cons.mpr ⟨sw_ne n20 (by decide), List.forall_mem_cons.mpr ⟨sw_ne n24 (by decide), List.forall_mem_cons.mpr ⟨sw_ne n28 (by decide), List.forall_mem_cons.mpr ⟨sw_ne n32 (by decide), List.forall_mem_cons.mpr ⟨sw_ne n36 (by decide), List.forall_mem_cons.mpr ⟨sw_ne n40 (by decide), List.forall_mem_cons.mpr ⟨sw_ne n44 (by decide), List.forall_mem_cons.mpr ⟨sw_ne n48 (by decide), List.forall_mem_cons.mpr ⟨sw_ne n52 (by decide), fun _ hk => absurd hk List.not_mem_nil⟩⟩⟩⟩⟩⟩⟩⟩⟩⟩) (by decide) ?_
        refine z_aload_n X 3 dL_undone_292 rfl rfl ?_
        refine z_sub [2, 3, 4, 5, 6, 1, 0] rfl ?_
        obtain ⟨o56, e57, h⟩ := bnd_p h
        refine z_perm (ws' := OW g ax ad o10.2 ++ [(q_n2, .inl (g 2, 9, .inr (.inl (vp_updL a_n2 x3.toNatClampNeg o10.1))))]) List.perm_append_comm ?_
        refine sg_undone hfl X hK hA (Nat.le_of_ble_eq_true rfl) (Nat.le_of_ble_eq_true rfl) e57 (by refine Nat.le_trans (m := 9993) ?_ (Nat.le_of_ble_eq_true rfl); first | exact Nat.le_of_ble_eq_true rfl | omega) (by refine Nat.le_trans (m := 63641) ?_ (Nat.le_of_ble_eq_true rfl); first | exact Nat.le_of_ble_eq_true rfl | omega) ?_
        refine z_perm (ws' := ([(q_n2, .inl (g 2, 9, .inr (.inl (vp_updL a_n2 x3.toNatClampNeg o10.1))))] ++ OW g ax ad o56.2)) List.perm_append_comm ?_
        refine z_istore X [(7, .int o56.1), (0, .ref ev.b), (1, .ref (ax 0)), (2, .ref q_n2), (3, .int x3), (4, .int x4), (5, .int (ushr o7 (1 : Int32))), (6, .int (ushr (ushr o7 (1 : Int32)) (4 : Int32)))] dL_undone_377 (by decide) rfl ?_
        refine z_widen (k := (c10 + 476)) (n := (s10 + 3316)) (by first | exact Nat.le_of_ble_eq_true rfl | omega) (by first | exact Nat.le_of_ble_eq_true rfl | omega) ?_
        refine z_sub (lv' := [(0, .ref ev.b), (1, .ref (ax 0)), (2, .ref q_n2), (3, .int x3), (4, .int x4), (7, .int o56.1)]) [1, 2, 3, 4, 5, 0] rfl ?_
        exact H379 q_n2 x3 x4 o56.1 o56.2 (vp_updL a_n2 x3.toNatClampNeg o10.1) h
  refine z_bipush X (9 : Int32) dL_undone_0 (by decide) ?_
  refine z_newa (atype := .long) (a0 := (9, .inr (.inl (fun _ => 0)))) (ty := .long) 2 X hA qa_long rfl rfl (fun _ _ h => h) (fun _ => rfl) (by decide) (by decide) (Nat.le_of_ble_eq_true rfl) (Nat.le_trans (m := 9993) (by first | exact Nat.le_of_ble_eq_true rfl | omega) (Nat.le_of_ble_eq_true rfl)) (Nat.le_trans (m := 63641) (by first | exact Nat.le_of_ble_eq_true rfl | omega) (Nat.le_of_ble_eq_true rfl)) dL_undone_2 (fun q_n2 => ?_)
  refine z_perm (ws' := ([(q_n2, .inl (g 2, 9, .inr (.inl (fun _ => 0))))] ++ OW g ax ad x)) List.perm_append_comm ?_
  refine z_astore_n X [(2, .ref q_n2), (0, .ref ev.b), (1, .ref (ax 0))] dL_undone_4 rfl (by decide) rfl ?_
  refine z_iconst X (0 : Int32) dL_undone_5 (by decide) ?_
  refine z_istore_n X [(3, .int (0 : Int32)), (2, .ref q_n2), (0, .ref ev.b), (1, .ref (ax 0))] dL_undone_6 rfl (by decide) rfl ?_
  refine z_iconst X (0 : Int32) dL_undone_7 (by decide) ?_
  refine z_istore X [(4, .int (0 : Int32)), (3, .int (0 : Int32)), (2, .ref q_n2), (0, .ref ev.b), (1, .ref (ax 0))] dL_undone_8 (by decide) rfl ?_
  refine z_sub (lv' := [(0, .ref ev.b), (1, .ref (ax 0)), (2, .ref q_n2), (3, .int (0 : Int32)), (4, .int (0 : Int32))]) [3, 4, 2, 1, 0] rfl ?_
  exact H10 8 q_n2 (0 : Int32) (0 : Int32) x (fun _ => 0) _ _ (by first | exact Nat.le_of_ble_eq_true rfl | omega) (by first | exact Nat.le_of_ble_eq_true rfl | omega) h
