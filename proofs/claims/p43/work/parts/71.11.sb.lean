theorem dJ5_inflateIfNeededFor_a7421_0 : decode cJ5_inflateIfNeededFor_a7421 0 = .ok (.getstatic 18, 3) := by decide +kernel
theorem dJ5_inflateIfNeededFor_a7421_3 : decode cJ5_inflateIfNeededFor_a7421 3 = .ok (.ifCond .eq 18, 3) := by decide +kernel
theorem dJ5_inflateIfNeededFor_a7421_6 : decode cJ5_inflateIfNeededFor_a7421 6 = .ok (.aload_n 0, 1) := by decide +kernel
theorem dJ5_inflateIfNeededFor_a7421_7 : decode cJ5_inflateIfNeededFor_a7421 7 = .ok (.getfield 22, 3) := by decide +kernel
theorem dJ5_inflateIfNeededFor_a7421_10 : decode cJ5_inflateIfNeededFor_a7421 10 = .ok (.aload_n 1, 1) := by decide +kernel
theorem dJ5_inflateIfNeededFor_a7421_11 : decode cJ5_inflateIfNeededFor_a7421 11 = .ok (.invokevirtual 40, 3) := by decide +kernel
theorem dJ5_inflateIfNeededFor_a7421_14 : decode cJ5_inflateIfNeededFor_a7421 14 = .ok (.if_icmp .eq 7, 3) := by decide +kernel
theorem dJ5_inflateIfNeededFor_a7421_17 : decode cJ5_inflateIfNeededFor_a7421 17 = .ok (.aload_n 0, 1) := by decide +kernel
theorem dJ5_inflateIfNeededFor_a7421_18 : decode cJ5_inflateIfNeededFor_a7421 18 = .ok (.invokevirtual 195, 3) := by decide +kernel
theorem dJ5_inflateIfNeededFor_a7421_21 : decode cJ5_inflateIfNeededFor_a7421 21 = .ok (.return_, 1) := by decide +kernel
set_option maxHeartbeats 4000000 in
set_option maxRecDepth 100000 in
theorem c_sb_infl (l : Launch) (hfl : l.stackTraces = false) (ev : LEv) (D : va_G) (g : Nat → ClassId) (q_tx v_tx n_tx : Nat) (f_tx : Nat → Int32) (qb vb mb nb : Nat) (fb : Nat → Int32) : MO l yJ5_inflateIfNeededFor_a7421 (Cond.code yJ5_inflateIfNeededFor_a7421 cJ5_inflateIfNeededFor_a7421 2 none) { frames := 1, cells := 0, slots := 0, locals := 20 } (KT ev q_tx v_tx n_tx f_tx) D g [.ref qb, .ref q_tx] [(qb, .inr (12, [.ref vb, .int 0, .int 0, .int (nI nb)])), (vb, .inl (g 5, mb, .inl fb))] (fun _ : Unit => True) (fun _ => none) (fun _ => SBW g qb nb (vb, mb, fb)) 0 0 := by
  refine z_o_start (by decide) (Nat.le_of_ble_eq_true rfl) ?_
  intro p e s m args below meth c Q A X hr hin hK hA hQ
  have hKT := hK
  have hK := hKT.1
  refine z_lv (lv' := [(0, .ref qb), (1, .ref q_tx)]) rfl ?_
  refine z_gets X IW_S hK.1.2.1.2 qf_J5_J0_COMPACT_STRINGS dJ5_inflateIfNeededFor_a7421_0 ?_
  refine z_if_eq (F1 := some ()) (F2 := some ()) (o := ()) X 21 dJ5_inflateIfNeededFor_a7421_3 (by decide) (by unfold brn; split <;> rfl) (fun hh _ => absurd hh (by decide)) (fun _ _ => ?_)
  refine z_aload_n X 0 dJ5_inflateIfNeededFor_a7421_6 rfl rfl ?_
  refine z_get (q0 := 0) (k := 1) (ci := 12) X IW_P iw_J4 rfl qf_J5_J5_coder (by decide) dJ5_inflateIfNeededFor_a7421_7 rfl rfl ?_
  refine z_aload_n X 1 dJ5_inflateIfNeededFor_a7421_10 rfl rfl ?_
  refine z_kV (rest := [.int 0]) X (KT_ok ev q_tx v_tx n_tx f_tx) IW_S hKT k_J0_coder_7d493 (t_coder l ev D g q_tx v_tx n_tx f_tx) ql_J5_J0_coder_7d493 dJ5_inflateIfNeededFor_a7421_11 hKT.2.1 rfl rfl rfl ⟨Nat.le_of_ble_eq_true rfl, Nat.le_of_ble_eq_true rfl, rfl, rfl, Nat.le_of_ble_eq_true rfl, Nat.le_of_ble_eq_true rfl⟩ (Nat.le_of_ble_eq_true rfl) ?_
  refine z_icmp_eq (F1 := some ()) (F2 := some ()) (o := ()) X 21 dJ5_inflateIfNeededFor_a7421_14 (by decide) (by unfold brn; split <;> rfl) (fun _ _ => ?_) (fun hh _ => absurd rfl hh)
  exact z_ovret X hQ (Nat.le_of_ble_eq_true rfl) (Nat.le_of_ble_eq_true rfl) hr dJ5_inflateIfNeededFor_a7421_21 () trivial rfl (List.Perm.refl _)

theorem k_J0_getBytes_840e7 : cardV yJ0_getBytes_840e7 (Cond.code yJ0_getBytes_840e7 cJ0_getBytes_840e7 4 none) 3 := ⟨⟨qi_J0_getBytes_840e7, qv_J0_getBytes_840e7⟩, qc_J0_getBytes_840e7, qn_J0, by decide +kernel, by decide +kernel, by decide +kernel⟩

theorem dJ0_getBytes_840e7_0 : decode cJ0_getBytes_840e7 0 = .ok (.aload_n 0, 1) := by decide +kernel
theorem dJ0_getBytes_840e7_1 : decode cJ0_getBytes_840e7 1 = .ok (.invokevirtual 335, 3) := by decide +kernel
theorem dJ0_getBytes_840e7_4 : decode cJ0_getBytes_840e7 4 = .ok (.iload_n 3, 1) := by decide +kernel
theorem dJ0_getBytes_840e7_5 : decode cJ0_getBytes_840e7 5 = .ok (.if_icmp .ne 23, 3) := by decide +kernel
theorem dJ0_getBytes_840e7_8 : decode cJ0_getBytes_840e7 8 = .ok (.aload_n 0, 1) := by decide +kernel
theorem dJ0_getBytes_840e7_9 : decode cJ0_getBytes_840e7 9 = .ok (.getfield 9, 3) := by decide +kernel
theorem dJ0_getBytes_840e7_12 : decode cJ0_getBytes_840e7 12 = .ok (.iconst 0, 1) := by decide +kernel
theorem dJ0_getBytes_840e7_13 : decode cJ0_getBytes_840e7 13 = .ok (.aload_n 1, 1) := by decide +kernel
theorem dJ0_getBytes_840e7_14 : decode cJ0_getBytes_840e7 14 = .ok (.iload_n 2, 1) := by decide +kernel
theorem dJ0_getBytes_840e7_15 : decode cJ0_getBytes_840e7 15 = .ok (.iload_n 3, 1) := by decide +kernel
theorem dJ0_getBytes_840e7_16 : decode cJ0_getBytes_840e7 16 = .ok (.ishl, 1) := by decide +kernel
theorem dJ0_getBytes_840e7_17 : decode cJ0_getBytes_840e7 17 = .ok (.aload_n 0, 1) := by decide +kernel
theorem dJ0_getBytes_840e7_18 : decode cJ0_getBytes_840e7 18 = .ok (.getfield 9, 3) := by decide +kernel
theorem dJ0_getBytes_840e7_21 : decode cJ0_getBytes_840e7 21 = .ok (.arraylength, 1) := by decide +kernel
theorem dJ0_getBytes_840e7_22 : decode cJ0_getBytes_840e7 22 = .ok (.invokestatic 212, 3) := by decide +kernel
theorem dJ0_getBytes_840e7_25 : decode cJ0_getBytes_840e7 25 = .ok (.goto 18, 3) := by decide +kernel
theorem dJ0_getBytes_840e7_28 : decode cJ0_getBytes_840e7 28 = .ok (.aload_n 0, 1) := by decide +kernel
theorem dJ0_getBytes_840e7_29 : decode cJ0_getBytes_840e7 29 = .ok (.getfield 9, 3) := by decide +kernel
theorem dJ0_getBytes_840e7_32 : decode cJ0_getBytes_840e7 32 = .ok (.iconst 0, 1) := by decide +kernel
theorem dJ0_getBytes_840e7_33 : decode cJ0_getBytes_840e7 33 = .ok (.aload_n 1, 1) := by decide +kernel
theorem dJ0_getBytes_840e7_34 : decode cJ0_getBytes_840e7 34 = .ok (.iload_n 2, 1) := by decide +kernel
theorem dJ0_getBytes_840e7_35 : decode cJ0_getBytes_840e7 35 = .ok (.aload_n 0, 1) := by decide +kernel
theorem dJ0_getBytes_840e7_36 : decode cJ0_getBytes_840e7 36 = .ok (.getfield 9, 3) := by decide +kernel
theorem dJ0_getBytes_840e7_39 : decode cJ0_getBytes_840e7 39 = .ok (.arraylength, 1) := by decide +kernel
theorem dJ0_getBytes_840e7_40 : decode cJ0_getBytes_840e7 40 = .ok (.invokestatic 106, 3) := by decide +kernel
theorem dJ0_getBytes_840e7_43 : decode cJ0_getBytes_840e7 43 = .ok (.return_, 1) := by decide +kernel
set_option maxHeartbeats 4000000 in
set_option maxRecDepth 100000 in
theorem c_sb_bytes (l : Launch) (hfl : l.stackTraces = false) (ev : LEv) (D : va_G) (g : Nat → ClassId) (q_tx v_tx n_tx : Nat) (f_tx : Nat → Int32) (vb mb pb : Nat) (fb : Nat → Int32) (tm : List Int32) (htx : TQ n_tx f_tx tm) (hp : pb + n_tx ≤ mb) (hm : mb ≤ 34) : MO l yJ0_getBytes_840e7 (Cond.code yJ0_getBytes_840e7 cJ0_getBytes_840e7 4 none) { frames := 1, cells := 0, slots := 0, locals := 40 } (KT ev q_tx v_tx n_tx f_tx) D g [.ref q_tx, .ref vb, .int (nI pb), .int 0] [(vb, .inl (g 5, mb, .inl fb))] (fun _ : Unit => True) (fun _ => none) (fun _ => [(vb, .inl (g 5, mb, .inl (va_cpy f_tx fb 0 pb n_tx)))]) 0 0 := by
  refine z_o_start (by decide) (Nat.le_of_ble_eq_true rfl) ?_
  intro p e s m args below meth c Q A X hr hin hK hA hQ
  have hKT := hK
  have hK := hKT.1
  refine z_lv (lv' := [(0, .ref q_tx), (1, .ref vb), (2, .int (nI pb)), (3, .int 0)]) rfl ?_
  refine z_aload_n X 0 dJ0_getBytes_840e7_0 rfl rfl ?_
  refine z_kV (rest := []) X (KT_ok ev q_tx v_tx n_tx f_tx) IW_S hKT k_J0_coder_7d493 (t_coder l ev D g q_tx v_tx n_tx f_tx) ql_J0_J0_coder_7d493 dJ0_getBytes_840e7_1 hKT.2.1 rfl rfl rfl ⟨Nat.le_of_ble_eq_true rfl, Nat.le_of_ble_eq_true rfl, rfl, rfl, Nat.le_of_ble_eq_true rfl, Nat.le_of_ble_eq_true rfl⟩ (Nat.le_of_ble_eq_true rfl) ?_
  refine z_iload_n X 3 dJ0_getBytes_840e7_4 rfl rfl ?_
  refine z_icmp_ne (F1 := some ()) (F2 := some ()) (o := ()) X 28 dJ0_getBytes_840e7_5 (by decide) (by unfold brn; split <;> rfl) (fun _ _ => ?_) (fun hh _ => absurd rfl hh)
  refine z_aload_n X 0 dJ0_getBytes_840e7_8 rfl rfl ?_
  refine z_getc X IW_S hKT.2.2.2.1 qf_J0_J0_value dJ0_getBytes_840e7_9 ?_
  refine z_iconst X (0 : Int32) dJ0_getBytes_840e7_12 (by decide) ?_
  refine z_aload_n X 1 dJ0_getBytes_840e7_13 rfl rfl ?_
  refine z_iload_n X 2 dJ0_getBytes_840e7_14 rfl rfl ?_
  refine z_iload_n X 3 dJ0_getBytes_840e7_15 rfl rfl ?_
  refine z_ishl X dJ0_getBytes_840e7_16 ?_
  rw [sb_shl0]
  refine z_aload_n X 0 dJ0_getBytes_840e7_17 rfl rfl ?_
  refine z_getc X IW_S hKT.2.2.2.1 qf_J0_J0_value dJ0_getBytes_840e7_18 ?_
  refine z_tlen (v := nI n_tx) X IW_S hKT.2.2.2.2 rfl dJ0_getBytes_840e7_21 ?_
  refine z_copyt (q1 := 0) (ws' := [(vb, .inl (g 5, mb, .inl (va_cpy f_tx fb 0 pb n_tx)))]) X ql_J0_ac dJ0_getBytes_840e7_22 hKT.2.2.2.2 rfl ⟨by decide, nI_pos (by omega), nI_pos (by omega), by rw [sb_cl0, nI_clamp (by omega)]; omega, by rw [nI_clamp (by omega), nI_clamp (by omega)]; omega⟩ (fun j hj => (htx.2 j hj).2) (by rw [nI_clamp (n := pb) (by omega), nI_clamp (n := n_tx) (by omega), sb_cl0]; rfl) (Nat.le_of_ble_eq_true rfl) (Nat.le_of_ble_eq_true rfl) ?_
  refine z_goto X 43 dJ0_getBytes_840e7_25 (by decide) ?_
  exact z_ovret X hQ (Nat.le_of_ble_eq_true rfl) (Nat.le_of_ble_eq_true rfl) hr dJ0_getBytes_840e7_43 () trivial rfl (List.Perm.refl _)

theorem dJ5_putStringAt_47b60_0 : decode cJ5_putStringAt_47b60 0 = .ok (.aload_n 0, 1) := by decide +kernel
theorem dJ5_putStringAt_47b60_1 : decode cJ5_putStringAt_47b60 1 = .ok (.aload_n 2, 1) := by decide +kernel
theorem dJ5_putStringAt_47b60_2 : decode cJ5_putStringAt_47b60 2 = .ok (.invokevirtual 397, 3) := by decide +kernel
theorem dJ5_putStringAt_47b60_5 : decode cJ5_putStringAt_47b60 5 = .ok (.aload_n 2, 1) := by decide +kernel
theorem dJ5_putStringAt_47b60_6 : decode cJ5_putStringAt_47b60 6 = .ok (.aload_n 0, 1) := by decide +kernel
theorem dJ5_putStringAt_47b60_7 : decode cJ5_putStringAt_47b60 7 = .ok (.getfield 15, 3) := by decide +kernel
theorem dJ5_putStringAt_47b60_10 : decode cJ5_putStringAt_47b60 10 = .ok (.iload_n 1, 1) := by decide +kernel
theorem dJ5_putStringAt_47b60_11 : decode cJ5_putStringAt_47b60 11 = .ok (.aload_n 0, 1) := by decide +kernel
theorem dJ5_putStringAt_47b60_12 : decode cJ5_putStringAt_47b60 12 = .ok (.getfield 22, 3) := by decide +kernel
theorem dJ5_putStringAt_47b60_15 : decode cJ5_putStringAt_47b60 15 = .ok (.invokevirtual 399, 3) := by decide +kernel
theorem dJ5_putStringAt_47b60_18 : decode cJ5_putStringAt_47b60 18 = .ok (.return_, 1) := by decide +kernel
set_option maxHeartbeats 4000000 in
set_option maxRecDepth 100000 in
theorem c_sb_put (l : Launch) (hfl : l.stackTraces = false) (ev : LEv) (D : va_G) (g : Nat → ClassId) (q_tx v_tx n_tx : Nat) (f_tx : Nat → Int32) (qb vb mb nb pb : Nat) (fb : Nat → Int32) (tm : List Int32) (htx : TQ n_tx f_tx tm) (hp : pb + n_tx ≤ mb) (hm : mb ≤ 34) : MO l yJ5_putStringAt_47b60 (Cond.code yJ5_putStringAt_47b60 cJ5_putStringAt_47b60 3 none) { frames := 2, cells := 0, slots := 0, locals := 63 } (KT ev q_tx v_tx n_tx f_tx) D g [.ref qb, .int (nI pb), .ref q_tx] [(qb, .inr (12, [.ref vb, .int 0, .int 0, .int (nI nb)])), (vb, .inl (g 5, mb, .inl fb))] (fun _ : Unit => True) (fun _ => none) (fun _ => SBW g qb nb (vb, mb, va_cpy f_tx fb 0 pb n_tx)) 0 0 := by
  refine z_o_start (by decide) (Nat.le_of_ble_eq_true rfl) ?_
  intro p e s m args below meth c Q A X hr hin hK hA hQ
  have hKT := hK
  have hK := hKT.1
  refine z_lv (lv' := [(0, .ref qb), (1, .int (nI pb)), (2, .ref q_tx)]) rfl ?_
  refine z_aload_n X 0 dJ5_putStringAt_47b60_0 rfl rfl ?_
  refine z_aload_n X 2 dJ5_putStringAt_47b60_1 rfl rfl ?_
  refine z_oU (n := 1) (rest := []) (wr := []) (x := yJ5_inflateIfNeededFor_a7421) (owner := "java/lang/AbstractStringBuilder") (C := RJ4) X (KT_ok ev q_tx v_tx n_tx f_tx) (kc_of (KT_ok ev q_tx v_tx n_tx f_tx) (fun _ _ _ q => q) hKT hA (pm_bkc (wr := []) (perm_of (n := 2) (E := [(qb, .inr (12, [.ref vb, .int 0, .int 0, .int (nI nb)])), (vb, .inl (g 5, mb, .inl fb))]) (wc := [(qb, .inr (12, [.ref vb, .int 0, .int 0, .int (nI nb)])), (vb, .inl (g 5, mb, .inl fb))]) (wr := []) [0, 1] [] rfl rfl rfl (by decide +kernel)))) hA (c_sb_infl l hfl ev D g q_tx v_tx n_tx f_tx qb vb mb nb fb) qc_J5_inflateIfNeededFor_a7421 qn_J5 ⟨by decide, by decide⟩ (by decide +kernel) ql_J5_J5_inflateIfNeededFor_a7421 qx_same6 (va_Decl.of (X.1.2.2.2.2 _ qi_J5_inflateIfNeededFor_a7421) (X.1.2.2.2.2 _ qc_J5_inflateIfNeededFor_a7421)) (sel_sb (ev := ev) X hKT.1 (List.mem_of_getElem? (i := 3) rfl) ⟨by decide, by decide⟩ qi_J5_inflateIfNeededFor_a7421 qx_same6) qi_J5_inflateIfNeededFor_a7421 dJ5_putStringAt_47b60_2 (perm_of (n := 2) (E := [(qb, .inr (12, [.ref vb, .int 0, .int 0, .int (nI nb)])), (vb, .inl (g 5, mb, .inl fb))]) (wc := [(qb, .inr (12, [.ref vb, .int 0, .int 0, .int (nI nb)])), (vb, .inl (g 5, mb, .inl fb))]) (wr := []) [0, 1] [] rfl rfl rfl (by decide +kernel)) (rc_of (q0 := 0) (ci := 12) X rfl rfl) rfl rfl ⟨Nat.le_of_ble_eq_true rfl, Nat.le_of_ble_eq_true rfl, rfl, rfl, Nat.le_of_ble_eq_true rfl, Nat.le_of_ble_eq_true rfl⟩ (Nat.le_of_ble_eq_true rfl) (fun a ha => ?_)
  refine z_perm (ws' := [(qb, .inr (12, [.ref vb, .int 0, .int 0, .int (nI nb)])), (vb, .inl (g 5, mb, .inl fb))]) (List.Perm.refl _) ?_
  refine z_aload_n X 2 dJ5_putStringAt_47b60_5 rfl rfl ?_
  refine z_aload_n X 0 dJ5_putStringAt_47b60_6 rfl rfl ?_
  refine z_get (q0 := 0) (k := 0) (ci := 12) X IW_P iw_J4 rfl qf_J5_J5_value (by decide) dJ5_putStringAt_47b60_7 rfl rfl ?_
  refine z_iload_n X 1 dJ5_putStringAt_47b60_10 rfl rfl ?_
  refine z_aload_n X 0 dJ5_putStringAt_47b60_11 rfl rfl ?_
  refine z_get (q0 := 0) (k := 1) (ci := 12) X IW_P iw_J4 rfl qf_J5_J5_coder (by decide) dJ5_putStringAt_47b60_12 rfl rfl ?_
  refine z_oV (rest := []) (wr := [(qb, .inr (12, [.ref vb, .int 0, .int 0, .int (nI nb)]))]) X (KT_ok ev q_tx v_tx n_tx f_tx) (kc_of (KT_ok ev q_tx v_tx n_tx f_tx) (fun _ _ _ q => q) hKT hA (pm_bkc (wr := [(qb, .inr (12, [.ref vb, .int 0, .int 0, .int (nI nb)]))]) (perm_of (n := 2) (E := [(qb, .inr (12, [.ref vb, .int 0, .int 0, .int (nI nb)])), (vb, .inl (g 5, mb, .inl fb))]) (wc := [(vb, .inl (g 5, mb, .inl fb))]) (wr := [(qb, .inr (12, [.ref vb, .int 0, .int 0, .int (nI nb)]))]) [1] [0] rfl rfl rfl (by decide +kernel)))) hA k_J0_getBytes_840e7 (c_sb_bytes l hfl ev D g q_tx v_tx n_tx f_tx vb mb pb fb tm htx hp hm) ql_J5_J0_getBytes_840e7 dJ5_putStringAt_47b60_15 (perm_of (n := 2) (E := [(qb, .inr (12, [.ref vb, .int 0, .int 0, .int (nI nb)])), (vb, .inl (g 5, mb, .inl fb))]) (wc := [(vb, .inl (g 5, mb, .inl fb))]) (wr := [(qb, .inr (12, [.ref vb, .int 0, .int 0, .int (nI nb)]))]) [1] [0] rfl rfl rfl (by decide +kernel)) (fun H locs hI => by obtain ⟨cell, h1, h2, h3, -⟩ := hKT.2.1.kept (IW_S H locs hI).2.1; exact ⟨cell, h1, h2, h3⟩) rfl rfl ⟨Nat.le_of_ble_eq_true rfl, Nat.le_of_ble_eq_true rfl, rfl, rfl, Nat.le_of_ble_eq_true rfl, Nat.le_of_ble_eq_true rfl⟩ (Nat.le_of_ble_eq_true rfl) (fun a ha => ?_)
  refine z_perm (ws' := [(qb, .inr (12, [.ref vb, .int 0, .int 0, .int (nI nb)])), (vb, .inl (g 5, mb, .inl (va_cpy f_tx fb 0 pb n_tx)))]) (List.Perm.refl _) ?_
  exact z_ovret X hQ (Nat.le_of_ble_eq_true rfl) (Nat.le_of_ble_eq_true rfl) hr dJ5_putStringAt_47b60_18 () trivial rfl (List.Perm.refl _)

theorem dJ5_append_cf1ce_0 : decode cJ5_append_cf1ce 0 = .ok (.aload_n 1, 1) := by decide +kernel
theorem dJ5_append_cf1ce_1 : decode cJ5_append_cf1ce 1 = .ok (.ifnonnull 8, 3) := by decide +kernel
theorem dJ5_append_cf1ce_4 : decode cJ5_append_cf1ce 4 = .ok (.aload_n 0, 1) := by decide +kernel
theorem dJ5_append_cf1ce_5 : decode cJ5_append_cf1ce 5 = .ok (.invokevirtual 204, 3) := by decide +kernel
theorem dJ5_append_cf1ce_8 : decode cJ5_append_cf1ce 8 = .ok (.areturn, 1) := by decide +kernel
theorem dJ5_append_cf1ce_9 : decode cJ5_append_cf1ce 9 = .ok (.aload_n 1, 1) := by decide +kernel
theorem dJ5_append_cf1ce_10 : decode cJ5_append_cf1ce 10 = .ok (.invokevirtual 32, 3) := by decide +kernel
theorem dJ5_append_cf1ce_13 : decode cJ5_append_cf1ce 13 = .ok (.istore_n 2, 1) := by decide +kernel
theorem dJ5_append_cf1ce_14 : decode cJ5_append_cf1ce 14 = .ok (.aload_n 0, 1) := by decide +kernel
theorem dJ5_append_cf1ce_15 : decode cJ5_append_cf1ce 15 = .ok (.aload_n 0, 1) := by decide +kernel
theorem dJ5_append_cf1ce_16 : decode cJ5_append_cf1ce 16 = .ok (.getfield 79, 3) := by decide +kernel
theorem dJ5_append_cf1ce_19 : decode cJ5_append_cf1ce 19 = .ok (.iload_n 2, 1) := by decide +kernel
theorem dJ5_append_cf1ce_20 : decode cJ5_append_cf1ce 20 = .ok (.iadd, 1) := by decide +kernel
theorem dJ5_append_cf1ce_21 : decode cJ5_append_cf1ce 21 = .ok (.invokevirtual 100, 3) := by decide +kernel
theorem dJ5_append_cf1ce_24 : decode cJ5_append_cf1ce 24 = .ok (.aload_n 0, 1) := by decide +kernel
theorem dJ5_append_cf1ce_25 : decode cJ5_append_cf1ce 25 = .ok (.aload_n 0, 1) := by decide +kernel
theorem dJ5_append_cf1ce_26 : decode cJ5_append_cf1ce 26 = .ok (.getfield 79, 3) := by decide +kernel
theorem dJ5_append_cf1ce_29 : decode cJ5_append_cf1ce 29 = .ok (.aload_n 1, 1) := by decide +kernel
theorem dJ5_append_cf1ce_30 : decode cJ5_append_cf1ce 30 = .ok (.invokevirtual 208, 3) := by decide +kernel
theorem dJ5_append_cf1ce_33 : decode cJ5_append_cf1ce 33 = .ok (.aload_n 0, 1) := by decide +kernel
theorem dJ5_append_cf1ce_34 : decode cJ5_append_cf1ce 34 = .ok (.dup, 1) := by decide +kernel
theorem dJ5_append_cf1ce_35 : decode cJ5_append_cf1ce 35 = .ok (.getfield 79, 3) := by decide +kernel
theorem dJ5_append_cf1ce_38 : decode cJ5_append_cf1ce 38 = .ok (.iload_n 2, 1) := by decide +kernel
theorem dJ5_append_cf1ce_39 : decode cJ5_append_cf1ce 39 = .ok (.iadd, 1) := by decide +kernel
theorem dJ5_append_cf1ce_40 : decode cJ5_append_cf1ce 40 = .ok (.putfield 79, 3) := by decide +kernel
theorem dJ5_append_cf1ce_43 : decode cJ5_append_cf1ce 43 = .ok (.aload_n 0, 1) := by decide +kernel
theorem dJ5_append_cf1ce_44 : decode cJ5_append_cf1ce 44 = .ok (.areturn, 1) := by decide +kernel
set_option maxHeartbeats 4000000 in
set_option maxRecDepth 100000 in
theorem c_sb_appS5 (l : Launch) (hfl : l.stackTraces = false) (ev : LEv) (D : va_G) (g : Nat → ClassId) (q_tx v_tx n_tx : Nat) (f_tx : Nat → Int32) (qb vb mb nb : Nat) (fb : Nat → Int32) (tl tm : List Int32) (hok : SBok nb tl (vb, mb, fb)) (htx : TQ n_tx f_tx tm) (hn : nb + n_tx ≤ 34) : MO l yJ5_append_cf1ce (Cond.code yJ5_append_cf1ce cJ5_append_cf1ce 3 (some (.object "java/lang/AbstractStringBuilder"))) { frames := 4, cells := 1, slots := 34, locals := 110 } (KT ev q_tx v_tx n_tx f_tx) D g [.ref qb, .ref q_tx] [(qb, .inr (12, [.ref vb, .int 0, .int 0, .int (nI nb)])), (vb, .inl (g 5, mb, .inl fb))] (fun a : SBt => SBok (nb + n_tx) (tl ++ tm) a) (fun _ => some (.ref qb)) (fun a => SBW g qb (nb + n_tx) a) 1 34 := by
  refine z_o_start (by decide) (Nat.le_of_ble_eq_true rfl) ?_
  intro p e s m args below meth c Q A X hr hin hK hA hQ
  have hKT := hK
  have hK := hKT.1
  refine z_lv (lv' := [(0, .ref qb), (1, .ref q_tx)]) rfl ?_
  refine z_aload_n X 1 dJ5_append_cf1ce_0 rfl rfl ?_
  refine z_ifnn 9 X dJ5_append_cf1ce_1 (by decide) ?_
  refine z_aload_n X 1 dJ5_append_cf1ce_9 rfl rfl ?_
  refine z_kV (rest := []) X (KT_ok ev q_tx v_tx n_tx f_tx) IW_S hKT k_J0_length_8abf5 (t_length l ev D g q_tx v_tx n_tx f_tx) ql_J5_J0_length_8abf5 dJ5_append_cf1ce_10 hKT.2.1 rfl rfl rfl ⟨Nat.le_of_ble_eq_true rfl, Nat.le_of_ble_eq_true rfl, rfl, rfl, Nat.le_of_ble_eq_true rfl, Nat.le_of_ble_eq_true rfl⟩ (Nat.le_of_ble_eq_true rfl) ?_
  refine z_istore_n X [(2, .int (nI n_tx)), (0, .ref qb), (1, .ref q_tx)] dJ5_append_cf1ce_13 rfl (by decide) rfl ?_
  refine z_aload_n X 1 dJ5_append_cf1ce_14 rfl rfl ?_
  refine z_aload_n X 1 dJ5_append_cf1ce_15 rfl rfl ?_
  refine z_get (q0 := 0) (k := 3) (ci := 12) X IW_P iw_J4 rfl qf_J5_J5_count (by decide) dJ5_append_cf1ce_16 rfl rfl ?_
  refine z_iload_n X 0 dJ5_append_cf1ce_19 rfl rfl ?_
  refine z_iadd X dJ5_append_cf1ce_20 ?_
  rw [show (((nI nb) + (nI n_tx)) : Int32) = nI (nb + n_tx) from nI_add _ _]
  refine z_oU (n := 1) (rest := []) (wr := []) (x := yJ5_ensureCapacityInternal_d00df) (owner := "java/lang/AbstractStringBuilder") (C := RJ4) X (KF_ok ev) (kc_of (KT_ok ev q_tx v_tx n_tx f_tx) (fun _ _ _ q => q.1) hKT hA (pm_bkc (wr := []) (perm_of (n := 2) (E := [(qb, .inr (12, [.ref vb, .int 0, .int 0, .int (nI nb)])), (vb, .inl (g 5, mb, .inl fb))]) (wc := [(qb, .inr (12, [.ref vb, .int 0, .int 0, .int (nI nb)])), (vb, .inl (g 5, mb, .inl fb))]) (wr := []) [0, 1] [] rfl rfl rfl (by decide +kernel)))) hA (c_sb_ens l hfl ev D g qb vb mb nb (nb + n_tx) fb tl hok hn) qc_J5_ensureCapacityInternal_d00df qn_J5 ⟨by decide, by decide⟩ (by decide +kernel) ql_J5_J5_ensureCapacityInternal_d00df qx_same1 (va_Decl.of (X.1.2.2.2.2 _ qi_J5_ensureCapacityInternal_d00df) (X.1.2.2.2.2 _ qc_J5_ensureCapacityInternal_d00df)) (sel_sb (ev := ev) X hKT.1 (List.mem_of_getElem? (i := 0) rfl) ⟨by decide, by decide⟩ qi_J5_ensureCapacityInternal_d00df qx_same1) qi_J5_ensureCapacityInternal_d00df dJ5_append_cf1ce_21 (perm_of (n := 2) (E := [(qb, .inr (12, [.ref vb, .int 0, .int 0, .int (nI nb)])), (vb, .inl (g 5, mb, .inl fb))]) (wc := [(qb, .inr (12, [.ref vb, .int 0, .int 0, .int (nI nb)])), (vb, .inl (g 5, mb, .inl fb))]) (wr := []) [0, 1] [] rfl rfl rfl (by decide +kernel)) (rc_of (q0 := 0) (ci := 12) X rfl rfl) rfl rfl ⟨Nat.le_of_ble_eq_true rfl, Nat.le_of_ble_eq_true rfl, rfl, rfl, Nat.le_of_ble_eq_true rfl, Nat.le_of_ble_eq_true rfl⟩ (Nat.le_of_ble_eq_true rfl) (fun a ha => ?_)
  obtain ⟨v2, m2, f2⟩ := a
  obtain ⟨ok2, le2⟩ := ha
  have le2 : nb + n_tx ≤ m2 := le2
  have m34 : m2 ≤ 34 := by have : m2 = 16 ∨ m2 = 34 := ok2.1; omega
  refine z_perm (ws' := [(qb, .inr (12, [.ref v2, .int 0, .int 0, .int (nI nb)])), (v2, .inl (g 5, m2, .inl f2))]) (List.Perm.refl _) ?_
  refine z_aload_n X 1 dJ5_append_cf1ce_24 rfl rfl ?_
  refine z_aload_n X 1 dJ5_append_cf1ce_25 rfl rfl ?_
  refine z_get (q0 := 0) (k := 3) (ci := 12) X IW_P iw_J4 rfl qf_J5_J5_count (by decide) dJ5_append_cf1ce_26 rfl rfl ?_
  refine z_aload_n X 2 dJ5_append_cf1ce_29 rfl rfl ?_
  refine z_oU (n := 2) (rest := []) (wr := []) (x := yJ5_putStringAt_47b60) (owner := "java/lang/AbstractStringBuilder") (C := RJ4) X (KT_ok ev q_tx v_tx n_tx f_tx) (kc_of (KT_ok ev q_tx v_tx n_tx f_tx) (fun _ _ _ q => q) hKT hA (pm_bkc (wr := []) (perm_of (n := 2) (E := [(qb, .inr (12, [.ref v2, .int 0, .int 0, .int (nI nb)])), (v2, .inl (g 5, m2, .inl f2))]) (wc := [(qb, .inr (12, [.ref v2, .int 0, .int 0, .int (nI nb)])), (v2, .inl (g 5, m2, .inl f2))]) (wr := []) [0, 1] [] rfl rfl rfl (by decide +kernel)))) hA (c_sb_put l hfl ev D g q_tx v_tx n_tx f_tx qb v2 m2 nb nb f2 tm htx le2 m34) qc_J5_putStringAt_47b60 qn_J5 ⟨by decide, by decide⟩ (by decide +kernel) ql_J5_J5_putStringAt_47b60 qx_same5 (va_Decl.of (X.1.2.2.2.2 _ qi_J5_putStringAt_47b60) (X.1.2.2.2.2 _ qc_J5_putStringAt_47b60)) (sel_sb (ev := ev) X hKT.1 (List.mem_of_getElem? (i := 2) rfl) ⟨by decide, by decide⟩ qi_J5_putStringAt_47b60 qx_same5) qi_J5_putStringAt_47b60 dJ5_append_cf1ce_30 (perm_of (n := 2) (E := [(qb, .inr (12, [.ref v2, .int 0, .int 0, .int (nI nb)])), (v2, .inl (g 5, m2, .inl f2))]) (wc := [(qb, .inr (12, [.ref v2, .int 0, .int 0, .int (nI nb)])), (v2, .inl (g 5, m2, .inl f2))]) (wr := []) [0, 1] [] rfl rfl rfl (by decide +kernel)) (rc_of (q0 := 0) (ci := 12) X rfl rfl) rfl rfl ⟨Nat.le_of_ble_eq_true rfl, Nat.le_of_ble_eq_true rfl, rfl, rfl, Nat.le_of_ble_eq_true rfl, Nat.le_of_ble_eq_true rfl⟩ (Nat.le_of_ble_eq_true rfl) (fun a ha => ?_)
  refine z_perm (ws' := [(qb, .inr (12, [.ref v2, .int 0, .int 0, .int (nI nb)])), (v2, .inl (g 5, m2, .inl (va_cpy f_tx f2 0 nb n_tx)))]) (List.Perm.refl _) ?_
  refine z_aload_n X 1 dJ5_append_cf1ce_33 rfl rfl ?_
  refine z_dup X dJ5_append_cf1ce_34 rfl ?_
  refine z_get (q0 := 0) (k := 3) (ci := 12) X IW_P iw_J4 rfl qf_J5_J5_count (by decide) dJ5_append_cf1ce_35 rfl rfl ?_
  refine z_iload_n X 0 dJ5_append_cf1ce_38 rfl rfl ?_
  refine z_iadd X dJ5_append_cf1ce_39 ?_
  rw [show (((nI nb) + (nI n_tx)) : Int32) = nI (nb + n_tx) from nI_add _ _]
  refine z_put (q0 := 0) (k := 3) (ci := 12) (ws' := [(qb, .inr (12, [.ref v2, .int 0, .int 0, .int (nI (nb + n_tx))])), (v2, .inl (g 5, m2, .inl (va_cpy f_tx f2 0 nb n_tx)))]) X iw_J4 tyJ4_ok nmJ4 rfl qf_J5_J5_count (by decide) rfl rfl dJ5_append_cf1ce_40 rfl rfl rfl (Nat.le_of_ble_eq_true rfl) rfl ?_
  refine z_aload_n X 1 dJ5_append_cf1ce_43 rfl rfl ?_
  exact z_oaret X hQ (Nat.le_of_ble_eq_true rfl) (Nat.le_of_ble_eq_true rfl) hr (Or.inl ⟨_, rfl⟩) dJ5_append_cf1ce_44 (v2, m2, va_cpy f_tx f2 0 nb n_tx) (ok2.str htx le2) rfl (List.Perm.refl _)

theorem k_J4_append_15ec4 : cardV yJ4_append_15ec4 (Cond.code yJ4_append_15ec4 cJ4_append_15ec4 2 (some (.object "java/lang/StringBuilder"))) 1 := ⟨⟨qi_J4_append_15ec4, qv_J4_append_15ec4⟩, qc_J4_append_15ec4, qn_J4, by decide +kernel, by decide +kernel, by decide +kernel⟩

theorem dJ4_append_15ec4_0 : decode cJ4_append_15ec4 0 = .ok (.aload_n 0, 1) := by decide +kernel
theorem dJ4_append_15ec4_1 : decode cJ4_append_15ec4 1 = .ok (.aload_n 1, 1) := by decide +kernel
theorem dJ4_append_15ec4_2 : decode cJ4_append_15ec4 2 = .ok (.invokespecial 29, 3) := by decide +kernel
theorem dJ4_append_15ec4_5 : decode cJ4_append_15ec4 5 = .ok (.pop, 1) := by decide +kernel
theorem dJ4_append_15ec4_6 : decode cJ4_append_15ec4 6 = .ok (.aload_n 0, 1) := by decide +kernel
theorem dJ4_append_15ec4_7 : decode cJ4_append_15ec4 7 = .ok (.areturn, 1) := by decide +kernel
set_option maxHeartbeats 4000000 in
set_option maxRecDepth 100000 in
theorem c_sb_appS (l : Launch) (hfl : l.stackTraces = false) (ev : LEv) (D : va_G) (g : Nat → ClassId) (q_tx v_tx n_tx : Nat) (f_tx : Nat → Int32) (qb vb mb nb : Nat) (fb : Nat → Int32) (tl tm : List Int32) (hok : SBok nb tl (vb, mb, fb)) (htx : TQ n_tx f_tx tm) (hn : nb + n_tx ≤ 34) : MO l yJ4_append_15ec4 (Cond.code yJ4_append_15ec4 cJ4_append_15ec4 2 (some (.object "java/lang/StringBuilder"))) { frames := 5, cells := 1, slots := 34, locals := 132 } (KT ev q_tx v_tx n_tx f_tx) D g [.ref qb, .ref q_tx] [(qb, .inr (12, [.ref vb, .int 0, .int 0, .int (nI nb)])), (vb, .inl (g 5, mb, .inl fb))] (fun a : SBt => SBok (nb + n_tx) (tl ++ tm) a) (fun _ => some (.ref qb)) (fun a => SBW g qb (nb + n_tx) a) 1 34 := by
  refine z_o_start (by decide) (Nat.le_of_ble_eq_true rfl) ?_
  intro p e s m args below meth c Q A X hr hin hK hA hQ
  have hKT := hK
  have hK := hKT.1
  refine z_lv (lv' := [(0, .ref qb), (1, .ref q_tx)]) rfl ?_
  refine z_aload_n X 0 dJ4_append_15ec4_0 rfl rfl ?_
  refine z_aload_n X 1 dJ4_append_15ec4_1 rfl rfl ?_
  refine z_oSU (n := 1) (rest := []) (wr := []) (C := RJ4) (cC := D.1 12) X (X.2.2.1.1 12 _ rfl).2 (KT_ok ev q_tx v_tx n_tx f_tx) (kc_of (KT_ok ev q_tx v_tx n_tx f_tx) (fun _ _ _ q => q) hKT hA (pm_bkc (wr := []) (perm_of (n := 2) (E := [(qb, .inr (12, [.ref vb, .int 0, .int 0, .int (nI nb)])), (vb, .inl (g 5, mb, .inl fb))]) (wc := [(qb, .inr (12, [.ref vb, .int 0, .int 0, .int (nI nb)])), (vb, .inl (g 5, mb, .inl fb))]) (wr := []) [0, 1] [] rfl rfl rfl (by decide +kernel)))) hA (c_sb_appS5 l hfl ev D g q_tx v_tx n_tx f_tx qb vb mb nb fb tl tm hok htx hn) qc_J5_append_cf1ce qn_J5 (by decide) (by decide +kernel) ql_J4_J5_append_cf1ce qx_same3 qx_sup qi_J5_append_cf1ce dJ4_append_15ec4_2 (perm_of (n := 2) (E := [(qb, .inr (12, [.ref vb, .int 0, .int 0, .int (nI nb)])), (vb, .inl (g 5, mb, .inl fb))]) (wc := [(qb, .inr (12, [.ref vb, .int 0, .int 0, .int (nI nb)])), (vb, .inl (g 5, mb, .inl fb))]) (wr := []) [0, 1] [] rfl rfl rfl (by decide +kernel)) (rc_of (q0 := 0) (ci := 12) X rfl rfl) rfl rfl ⟨Nat.le_of_ble_eq_true rfl, Nat.le_of_ble_eq_true rfl, rfl, rfl, Nat.le_of_ble_eq_true rfl, Nat.le_of_ble_eq_true rfl⟩ (Nat.le_of_ble_eq_true rfl) (fun a ha => ?_)
  obtain ⟨v2, m2, f2⟩ := a
  refine z_perm (ws' := [(qb, .inr (12, [.ref v2, .int 0, .int 0, .int (nI (nb + n_tx))])), (v2, .inl (g 5, m2, .inl f2))]) (List.Perm.refl _) ?_
  refine z_pop X dJ4_append_15ec4_5 rfl ?_
  refine z_aload_n X 0 dJ4_append_15ec4_6 rfl rfl ?_
  exact z_oaret X hQ (Nat.le_of_ble_eq_true rfl) (Nat.le_of_ble_eq_true rfl) hr (Or.inl ⟨_, rfl⟩) dJ4_append_15ec4_7 (v2, m2, f2) ha rfl (List.Perm.refl _)
