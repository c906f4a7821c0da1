theorem dJ5_isLatin1_aae02_0 : decode cJ5_isLatin1_aae02 0 = .ok (.getstatic 18, 3) := by decide +kernel
theorem dJ5_isLatin1_aae02_3 : decode cJ5_isLatin1_aae02 3 = .ok (.ifCond .eq 14, 3) := by decide +kernel
theorem dJ5_isLatin1_aae02_6 : decode cJ5_isLatin1_aae02 6 = .ok (.aload_n 0, 1) := by decide +kernel
theorem dJ5_isLatin1_aae02_7 : decode cJ5_isLatin1_aae02 7 = .ok (.getfield 22, 3) := by decide +kernel
theorem dJ5_isLatin1_aae02_10 : decode cJ5_isLatin1_aae02 10 = .ok (.ifCond .ne 7, 3) := by decide +kernel
theorem dJ5_isLatin1_aae02_13 : decode cJ5_isLatin1_aae02 13 = .ok (.iconst 1, 1) := by decide +kernel
theorem dJ5_isLatin1_aae02_14 : decode cJ5_isLatin1_aae02 14 = .ok (.goto 4, 3) := by decide +kernel
theorem dJ5_isLatin1_aae02_17 : decode cJ5_isLatin1_aae02 17 = .ok (.iconst 0, 1) := by decide +kernel
theorem dJ5_isLatin1_aae02_18 : decode cJ5_isLatin1_aae02 18 = .ok (.ireturn, 1) := by decide +kernel
set_option maxHeartbeats 4000000 in
set_option maxRecDepth 100000 in
theorem c_sb_isL (l : Launch) (hfl : l.stackTraces = false) (ev : LEv) (D : va_G) (g : Nat → ClassId) (qb vb mb nb : Nat) (fb : Nat → Int32) : MO l yJ5_isLatin1_aae02 (Cond.code yJ5_isLatin1_aae02 cJ5_isLatin1_aae02 1 (some .boolean)) { frames := 0, cells := 0, slots := 0, locals := 0 } (KF ev) D g [.ref qb] [(qb, .inr (12, [.ref vb, .int 0, .int 0, .int (nI nb)])), (vb, .inl (g 5, mb, .inl fb))] (fun _ : Unit => True) (fun _ => some (.int 1)) (fun _ => SBW g qb nb (vb, mb, fb)) 0 0 := by
  refine z_o_start (by decide) (Nat.le_of_ble_eq_true rfl) ?_
  intro p e s m args below meth c Q A X hr hin hK hA hQ
  refine z_lv (lv' := [(0, .ref qb)]) rfl ?_
  refine z_gets X IW_S hK.1.2.1.2 qf_J5_J0_COMPACT_STRINGS dJ5_isLatin1_aae02_0 ?_
  refine z_if_eq (F1 := some ()) (F2 := some ()) (o := ()) X 17 dJ5_isLatin1_aae02_3 (by decide) (by unfold brn; split <;> rfl) (fun hh _ => absurd hh (by decide)) (fun _ _ => ?_)
  refine z_aload_n X 0 dJ5_isLatin1_aae02_6 rfl rfl ?_
  refine z_get (q0 := 0) (k := 1) (ci := 12) X IW_P iw_J4 rfl qf_J5_J5_coder (by decide) dJ5_isLatin1_aae02_7 rfl rfl ?_
  refine z_if_ne (F1 := some ()) (F2 := some ()) (o := ()) X 17 dJ5_isLatin1_aae02_10 (by decide) (by unfold brn; split <;> rfl) (fun _ _ => ?_) (fun hh _ => absurd rfl hh)
  refine z_iconst X (1 : Int32) dJ5_isLatin1_aae02_13 (by decide) ?_
  refine z_goto X 18 dJ5_isLatin1_aae02_14 (by decide) ?_
  exact z_ozret X hQ (Nat.le_of_ble_eq_true rfl) (Nat.le_of_ble_eq_true rfl) hr rfl dJ5_isLatin1_aae02_18 () trivial rfl (List.Perm.refl _)

theorem dJ5_length_8abf5_0 : decode cJ5_length_8abf5 0 = .ok (.aload_n 0, 1) := by decide +kernel
theorem dJ5_length_8abf5_1 : decode cJ5_length_8abf5 1 = .ok (.getfield 79, 3) := by decide +kernel
theorem dJ5_length_8abf5_4 : decode cJ5_length_8abf5 4 = .ok (.ireturn, 1) := by decide +kernel
set_option maxHeartbeats 4000000 in
set_option maxRecDepth 100000 in
theorem c_sb_len5 (l : Launch) (hfl : l.stackTraces = false) (ev : LEv) (D : va_G) (g : Nat → ClassId) (qb vb mb nb : Nat) (fb : Nat → Int32) : MO l yJ5_length_8abf5 (Cond.code yJ5_length_8abf5 cJ5_length_8abf5 1 (some .int)) { frames := 0, cells := 0, slots := 0, locals := 0 } (KF ev) D g [.ref qb] [(qb, .inr (12, [.ref vb, .int 0, .int 0, .int (nI nb)])), (vb, .inl (g 5, mb, .inl fb))] (fun _ : Unit => True) (fun _ => some (.int (nI nb))) (fun _ => SBW g qb nb (vb, mb, fb)) 0 0 := by
  refine z_o_start (by decide) (Nat.le_of_ble_eq_true rfl) ?_
  intro p e s m args below meth c Q A X hr hin hK hA hQ
  refine z_lv (lv' := [(0, .ref qb)]) rfl ?_
  refine z_aload_n X 0 dJ5_length_8abf5_0 rfl rfl ?_
  refine z_get (q0 := 0) (k := 3) (ci := 12) X IW_P iw_J4 rfl qf_J5_J5_count (by decide) dJ5_length_8abf5_1 rfl rfl ?_
  exact z_oiret X hQ (Nat.le_of_ble_eq_true rfl) (Nat.le_of_ble_eq_true rfl) hr dJ5_length_8abf5_4 () trivial rfl (List.Perm.refl _)

theorem dJ4_length_8abf5_0 : decode cJ4_length_8abf5 0 = .ok (.aload_n 0, 1) := by decide +kernel
theorem dJ4_length_8abf5_1 : decode cJ4_length_8abf5 1 = .ok (.invokespecial 343, 3) := by decide +kernel
theorem dJ4_length_8abf5_4 : decode cJ4_length_8abf5 4 = .ok (.ireturn, 1) := by decide +kernel
set_option maxHeartbeats 4000000 in
set_option maxRecDepth 100000 in
theorem c_sb_len (l : Launch) (hfl : l.stackTraces = false) (ev : LEv) (D : va_G) (g : Nat → ClassId) (qb vb mb nb : Nat) (fb : Nat → Int32) : MO l yJ4_length_8abf5 (Cond.code yJ4_length_8abf5 cJ4_length_8abf5 1 (some .int)) { frames := 1, cells := 0, slots := 0, locals := 20 } (KF ev) D g [.ref qb] [(qb, .inr (12, [.ref vb, .int 0, .int 0, .int (nI nb)])), (vb, .inl (g 5, mb, .inl fb))] (fun _ : Unit => True) (fun _ => some (.int (nI nb))) (fun _ => SBW g qb nb (vb, mb, fb)) 0 0 := by
  refine z_o_start (by decide) (Nat.le_of_ble_eq_true rfl) ?_
  intro p e s m args below meth c Q A X hr hin hK hA hQ
  refine z_lv (lv' := [(0, .ref qb)]) rfl ?_
  refine z_aload_n X 0 dJ4_length_8abf5_0 rfl rfl ?_
  refine z_oSU (n := 0) (rest := []) (wr := []) (C := RJ4) (cC := D.1 12) X (X.2.2.1.1 12 _ rfl).2 (KF_ok ev) (kc_of (KF_ok ev) (fun _ _ _ q => q) hK hA (pm_bkc (wr := []) (perm_of (n := 2) (E := [(qb, .inr (12, [.ref vb, .int 0, .int 0, .int (nI nb)])), (vb, .inl (g 5, mb, .inl fb))]) (wc := [(qb, .inr (12, [.ref vb, .int 0, .int 0, .int (nI nb)])), (vb, .inl (g 5, mb, .inl fb))]) (wr := []) [0, 1] [] rfl rfl rfl (by decide +kernel)))) hA (c_sb_len5 l hfl ev D g qb vb mb nb fb) qc_J5_length_8abf5 qn_J5 (by decide) (by decide +kernel) ql_J4_J5_length_8abf5 qx_sameL qx_sup qi_J5_length_8abf5 dJ4_length_8abf5_1 (perm_of (n := 2) (E := [(qb, .inr (12, [.ref vb, .int 0, .int 0, .int (nI nb)])), (vb, .inl (g 5, mb, .inl fb))]) (wc := [(qb, .inr (12, [.ref vb, .int 0, .int 0, .int (nI nb)])), (vb, .inl (g 5, mb, .inl fb))]) (wr := []) [0, 1] [] rfl rfl rfl (by decide +kernel)) (rc_of (q0 := 0) (ci := 12) X rfl rfl) rfl rfl ⟨Nat.le_of_ble_eq_true rfl, Nat.le_of_ble_eq_true rfl, rfl, rfl, Nat.le_of_ble_eq_true rfl, Nat.le_of_ble_eq_true rfl⟩ (Nat.le_of_ble_eq_true rfl) (fun a ha => ?_)
  refine z_perm (ws' := [(qb, .inr (12, [.ref vb, .int 0, .int 0, .int (nI nb)])), (vb, .inl (g 5, mb, .inl fb))]) (List.Perm.refl _) ?_
  exact z_oiret X hQ (Nat.le_of_ble_eq_true rfl) (Nat.le_of_ble_eq_true rfl) hr dJ4_length_8abf5_4 () trivial rfl (List.Perm.refl _)

theorem dJ5_getValue_6d5f1_0 : decode cJ5_getValue_6d5f1 0 = .ok (.aload_n 0, 1) := by decide +kernel
theorem dJ5_getValue_6d5f1_1 : decode cJ5_getValue_6d5f1 1 = .ok (.getfield 15, 3) := by decide +kernel
theorem dJ5_getValue_6d5f1_4 : decode cJ5_getValue_6d5f1 4 = .ok (.areturn, 1) := by decide +kernel
set_option maxHeartbeats 4000000 in
set_option maxRecDepth 100000 in
theorem c_sb_val (l : Launch) (hfl : l.stackTraces = false) (ev : LEv) (D : va_G) (g : Nat → ClassId) (qb vb mb nb : Nat) (fb : Nat → Int32) : MO l yJ5_getValue_6d5f1 (Cond.code yJ5_getValue_6d5f1 cJ5_getValue_6d5f1 1 (some (.array .byte))) { frames := 0, cells := 0, slots := 0, locals := 0 } (KF ev) D g [.ref qb] [(qb, .inr (12, [.ref vb, .int 0, .int 0, .int (nI nb)])), (vb, .inl (g 5, mb, .inl fb))] (fun _ : Unit => True) (fun _ => some (.ref vb)) (fun _ => SBW g qb nb (vb, mb, fb)) 0 0 := by
  refine z_o_start (by decide) (Nat.le_of_ble_eq_true rfl) ?_
  intro p e s m args below meth c Q A X hr hin hK hA hQ
  refine z_lv (lv' := [(0, .ref qb)]) rfl ?_
  refine z_aload_n X 0 dJ5_getValue_6d5f1_0 rfl rfl ?_
  refine z_get (q0 := 0) (k := 0) (ci := 12) X IW_P iw_J4 rfl qf_J5_J5_value (by decide) dJ5_getValue_6d5f1_1 rfl rfl ?_
  exact z_oaret X hQ (Nat.le_of_ble_eq_true rfl) (Nat.le_of_ble_eq_true rfl) hr (Or.inr ⟨_, rfl⟩) dJ5_getValue_6d5f1_4 () trivial rfl (List.Perm.refl _)

theorem k_J8_newLength_cabcc : cardS yJ8_newLength_cabcc (Cond.code yJ8_newLength_cabcc cJ8_newLength_cabcc 4 (some .int)) 3 := ⟨qs_J8_newLength_cabcc, qc_J8_newLength_cabcc, qn_J8, by decide +kernel, by decide +kernel, by decide +kernel⟩

theorem dJ8_newLength_cabcc_0 : decode cJ8_newLength_cabcc 0 = .ok (.iload_n 0, 1) := by decide +kernel
theorem dJ8_newLength_cabcc_1 : decode cJ8_newLength_cabcc 1 = .ok (.iload_n 1, 1) := by decide +kernel
theorem dJ8_newLength_cabcc_2 : decode cJ8_newLength_cabcc 2 = .ok (.iload_n 2, 1) := by decide +kernel
theorem dJ8_newLength_cabcc_3 : decode cJ8_newLength_cabcc 3 = .ok (.invokestatic 194, 3) := by decide +kernel
theorem dJ8_newLength_cabcc_6 : decode cJ8_newLength_cabcc 6 = .ok (.iadd, 1) := by decide +kernel
theorem dJ8_newLength_cabcc_7 : decode cJ8_newLength_cabcc 7 = .ok (.istore_n 3, 1) := by decide +kernel
theorem dJ8_newLength_cabcc_8 : decode cJ8_newLength_cabcc 8 = .ok (.iconst 0, 1) := by decide +kernel
theorem dJ8_newLength_cabcc_9 : decode cJ8_newLength_cabcc 9 = .ok (.iload_n 3, 1) := by decide +kernel
theorem dJ8_newLength_cabcc_10 : decode cJ8_newLength_cabcc 10 = .ok (.if_icmp .ge 11, 3) := by decide +kernel
theorem dJ8_newLength_cabcc_13 : decode cJ8_newLength_cabcc 13 = .ok (.iload_n 3, 1) := by decide +kernel
theorem dJ8_newLength_cabcc_14 : decode cJ8_newLength_cabcc 14 = .ok (.ldc 200, 2) := by decide +kernel
theorem dJ8_newLength_cabcc_16 : decode cJ8_newLength_cabcc 16 = .ok (.if_icmp .gt 5, 3) := by decide +kernel
theorem dJ8_newLength_cabcc_19 : decode cJ8_newLength_cabcc 19 = .ok (.iload_n 3, 1) := by decide +kernel
theorem dJ8_newLength_cabcc_20 : decode cJ8_newLength_cabcc 20 = .ok (.ireturn, 1) := by decide +kernel
theorem dJ8_newLength_cabcc_21 : decode cJ8_newLength_cabcc 21 = .ok (.iload_n 0, 1) := by decide +kernel
theorem dJ8_newLength_cabcc_22 : decode cJ8_newLength_cabcc 22 = .ok (.iload_n 1, 1) := by decide +kernel
theorem dJ8_newLength_cabcc_23 : decode cJ8_newLength_cabcc 23 = .ok (.invokestatic 201, 3) := by decide +kernel
theorem dJ8_newLength_cabcc_26 : decode cJ8_newLength_cabcc 26 = .ok (.ireturn, 1) := by decide +kernel
set_option maxHeartbeats 4000000 in
set_option maxRecDepth 100000 in
theorem c_sb_newLen (l : Launch) (hfl : l.stackTraces = false) (ev : LEv) (D : va_G) (g : Nat → ClassId) (jb : Nat) (hj : jb ≤ 18) : MO l yJ8_newLength_cabcc (Cond.code yJ8_newLength_cabcc cJ8_newLength_cabcc 4 (some .int)) { frames := 1, cells := 0, slots := 0, locals := 40 } (KF ev) D g [.int (16 : Int32), .int (nI jb), .int (18 : Int32)] [] (fun _ : Unit => True) (fun _ => some (.int 34)) (fun _ => []) 0 0 := by
  refine z_o_start (by decide) (Nat.le_of_ble_eq_true rfl) ?_
  intro p e s m args below meth c Q A X hr hin hK hA hQ
  refine z_lv (lv' := [(0, .int (16 : Int32)), (1, .int (nI jb)), (2, .int (18 : Int32))]) rfl ?_
  refine z_iload_n X 0 dJ8_newLength_cabcc_0 rfl rfl ?_
  refine z_iload_n X 1 dJ8_newLength_cabcc_1 rfl rfl ?_
  refine z_iload_n X 2 dJ8_newLength_cabcc_2 rfl rfl ?_
  refine z_mmax X ql_J8_mmax dJ8_newLength_cabcc_3 (Nat.le_of_ble_eq_true rfl) (Nat.le_of_ble_eq_true rfl) (Nat.le_of_ble_eq_true rfl) (Nat.le_of_ble_eq_true rfl) ?_
  have e0 : (if nI jb < (18 : Int32) then (18 : Int32) else nI jb) = (18 : Int32) := by
    by_cases z9 : jb = 18
    · subst z9; rfl
    · exact if_pos (show nI jb < nI 18 from nI_lt (by omega) (by decide))
  rw [e0]
  refine z_iadd X dJ8_newLength_cabcc_6 ?_
  refine z_istore_n X [(3, .int ((16 : Int32) + (18 : Int32))), (0, .int (16 : Int32)), (1, .int (nI jb)), (2, .int (18 : Int32))] dJ8_newLength_cabcc_7 rfl (by decide) rfl ?_
  refine z_iconst X (0 : Int32) dJ8_newLength_cabcc_8 (by decide) ?_
  refine z_iload_n X 0 dJ8_newLength_cabcc_9 rfl rfl ?_
  refine z_icmp_ge (F1 := some ()) (F2 := some ()) (o := ()) X 21 dJ8_newLength_cabcc_10 (by decide) (by unfold brn; split <;> rfl) (fun hh _ => absurd hh (by decide)) (fun _ _ => ?_)
  refine z_iload_n X 0 dJ8_newLength_cabcc_13 rfl rfl ?_
  refine z_ldcI (2147483639 : Int32) X qx_kLen dJ8_newLength_cabcc_14 ?_
  refine z_icmp_gt (F1 := some ()) (F2 := some ()) (o := ()) X 21 dJ8_newLength_cabcc_16 (by decide) (by unfold brn; split <;> rfl) (fun hh _ => absurd hh (by decide)) (fun _ _ => ?_)
  refine z_iload_n X 0 dJ8_newLength_cabcc_19 rfl rfl ?_
  exact z_oiret X hQ (Nat.le_of_ble_eq_true rfl) (Nat.le_of_ble_eq_true rfl) hr dJ8_newLength_cabcc_20 () trivial rfl (List.Perm.refl _)

theorem dJ5_newCapacity_0f7a4_0 : decode cJ5_newCapacity_0f7a4 0 = .ok (.aload_n 0, 1) := by decide +kernel
theorem dJ5_newCapacity_0f7a4_1 : decode cJ5_newCapacity_0f7a4 1 = .ok (.getfield 15, 3) := by decide +kernel
theorem dJ5_newCapacity_0f7a4_4 : decode cJ5_newCapacity_0f7a4 4 = .ok (.arraylength, 1) := by decide +kernel
theorem dJ5_newCapacity_0f7a4_5 : decode cJ5_newCapacity_0f7a4 5 = .ok (.istore_n 2, 1) := by decide +kernel
theorem dJ5_newCapacity_0f7a4_6 : decode cJ5_newCapacity_0f7a4 6 = .ok (.iload_n 1, 1) := by decide +kernel
theorem dJ5_newCapacity_0f7a4_7 : decode cJ5_newCapacity_0f7a4 7 = .ok (.aload_n 0, 1) := by decide +kernel
theorem dJ5_newCapacity_0f7a4_8 : decode cJ5_newCapacity_0f7a4 8 = .ok (.getfield 22, 3) := by decide +kernel
theorem dJ5_newCapacity_0f7a4_11 : decode cJ5_newCapacity_0f7a4 11 = .ok (.ishl, 1) := by decide +kernel
theorem dJ5_newCapacity_0f7a4_12 : decode cJ5_newCapacity_0f7a4 12 = .ok (.istore_n 3, 1) := by decide +kernel
theorem dJ5_newCapacity_0f7a4_13 : decode cJ5_newCapacity_0f7a4 13 = .ok (.iload_n 3, 1) := by decide +kernel
theorem dJ5_newCapacity_0f7a4_14 : decode cJ5_newCapacity_0f7a4 14 = .ok (.iload_n 2, 1) := by decide +kernel
theorem dJ5_newCapacity_0f7a4_15 : decode cJ5_newCapacity_0f7a4 15 = .ok (.isub, 1) := by decide +kernel
theorem dJ5_newCapacity_0f7a4_16 : decode cJ5_newCapacity_0f7a4 16 = .ok (.istore 4, 2) := by decide +kernel
theorem dJ5_newCapacity_0f7a4_18 : decode cJ5_newCapacity_0f7a4 18 = .ok (.iload_n 2, 1) := by decide +kernel
theorem dJ5_newCapacity_0f7a4_19 : decode cJ5_newCapacity_0f7a4 19 = .ok (.iload 4, 2) := by decide +kernel
theorem dJ5_newCapacity_0f7a4_21 : decode cJ5_newCapacity_0f7a4 21 = .ok (.iload_n 2, 1) := by decide +kernel
theorem dJ5_newCapacity_0f7a4_22 : decode cJ5_newCapacity_0f7a4 22 = .ok (.iconst 2, 1) := by decide +kernel
theorem dJ5_newCapacity_0f7a4_23 : decode cJ5_newCapacity_0f7a4 23 = .ok (.aload_n 0, 1) := by decide +kernel
theorem dJ5_newCapacity_0f7a4_24 : decode cJ5_newCapacity_0f7a4 24 = .ok (.getfield 22, 3) := by decide +kernel
theorem dJ5_newCapacity_0f7a4_27 : decode cJ5_newCapacity_0f7a4 27 = .ok (.ishl, 1) := by decide +kernel
theorem dJ5_newCapacity_0f7a4_28 : decode cJ5_newCapacity_0f7a4 28 = .ok (.iadd, 1) := by decide +kernel
theorem dJ5_newCapacity_0f7a4_29 : decode cJ5_newCapacity_0f7a4 29 = .ok (.invokestatic 114, 3) := by decide +kernel
theorem dJ5_newCapacity_0f7a4_32 : decode cJ5_newCapacity_0f7a4 32 = .ok (.istore 5, 2) := by decide +kernel
theorem dJ5_newCapacity_0f7a4_34 : decode cJ5_newCapacity_0f7a4 34 = .ok (.iload 5, 2) := by decide +kernel
theorem dJ5_newCapacity_0f7a4_36 : decode cJ5_newCapacity_0f7a4 36 = .ok (.ldc 39, 2) := by decide +kernel
theorem dJ5_newCapacity_0f7a4_38 : decode cJ5_newCapacity_0f7a4 38 = .ok (.if_icmp .ne 13, 3) := by decide +kernel
theorem dJ5_newCapacity_0f7a4_41 : decode cJ5_newCapacity_0f7a4 41 = .ok (.new 120, 3) := by decide +kernel
theorem dJ5_newCapacity_0f7a4_44 : decode cJ5_newCapacity_0f7a4 44 = .ok (.dup, 1) := by decide +kernel
theorem dJ5_newCapacity_0f7a4_45 : decode cJ5_newCapacity_0f7a4 45 = .ok (.ldc 122, 2) := by decide +kernel
theorem dJ5_newCapacity_0f7a4_47 : decode cJ5_newCapacity_0f7a4 47 = .ok (.invokespecial 124, 3) := by decide +kernel
theorem dJ5_newCapacity_0f7a4_50 : decode cJ5_newCapacity_0f7a4 50 = .ok (.athrow, 1) := by decide +kernel
theorem dJ5_newCapacity_0f7a4_51 : decode cJ5_newCapacity_0f7a4 51 = .ok (.iload 5, 2) := by decide +kernel
theorem dJ5_newCapacity_0f7a4_53 : decode cJ5_newCapacity_0f7a4 53 = .ok (.aload_n 0, 1) := by decide +kernel
theorem dJ5_newCapacity_0f7a4_54 : decode cJ5_newCapacity_0f7a4 54 = .ok (.getfield 22, 3) := by decide +kernel
theorem dJ5_newCapacity_0f7a4_57 : decode cJ5_newCapacity_0f7a4 57 = .ok (.ishr, 1) := by decide +kernel
theorem dJ5_newCapacity_0f7a4_58 : decode cJ5_newCapacity_0f7a4 58 = .ok (.ireturn, 1) := by decide +kernel
set_option maxHeartbeats 4000000 in
set_option maxRecDepth 100000 in
theorem c_sb_newCap (l : Launch) (hfl : l.stackTraces = false) (ev : LEv) (D : va_G) (g : Nat → ClassId) (qb vb nb kb : Nat) (fb : Nat → Int32) (h1 : 16 < kb) (h2 : kb ≤ 34) : MO l yJ5_newCapacity_0f7a4 (Cond.code yJ5_newCapacity_0f7a4 cJ5_newCapacity_0f7a4 6 (some .int)) { frames := 2, cells := 0, slots := 0, locals := 63 } (KF ev) D g [.ref qb, .int (nI kb)] [(qb, .inr (12, [.ref vb, .int 0, .int 0, .int (nI nb)])), (vb, .inl (g 5, 16, .inl fb))] (fun _ : Unit => True) (fun _ => some (.int 34)) (fun _ => SBW g qb nb (vb, 16, fb)) 0 0 := by
  refine z_o_start (by decide) (Nat.le_of_ble_eq_true rfl) ?_
  intro p e s m args below meth c Q A X hr hin hK hA hQ
  refine z_lv (lv' := [(0, .ref qb), (1, .int (nI kb))]) rfl ?_
  refine z_aload_n X 0 dJ5_newCapacity_0f7a4_0 rfl rfl ?_
  refine z_get (q0 := 0) (k := 0) (ci := 12) X IW_P iw_J4 rfl qf_J5_J5_value (by decide) dJ5_newCapacity_0f7a4_1 rfl rfl ?_
  refine z_alen (q0 := 1) (v := (16 : Int32)) X IW_P 5 dJ5_newCapacity_0f7a4_4 rfl rfl rfl ?_
  refine z_istore_n X [(2, .int (16 : Int32)), (0, .ref qb), (1, .int (nI kb))] dJ5_newCapacity_0f7a4_5 rfl (by decide) rfl ?_
  refine z_iload_n X 2 dJ5_newCapacity_0f7a4_6 rfl rfl ?_
  refine z_aload_n X 1 dJ5_newCapacity_0f7a4_7 rfl rfl ?_
  refine z_get (q0 := 0) (k := 1) (ci := 12) X IW_P iw_J4 rfl qf_J5_J5_coder (by decide) dJ5_newCapacity_0f7a4_8 rfl rfl ?_
  refine z_ishl X dJ5_newCapacity_0f7a4_11 ?_
  rw [sb_shl0]
  refine z_istore_n X [(3, .int (nI kb)), (2, .int (16 : Int32)), (0, .ref qb), (1, .int (nI kb))] dJ5_newCapacity_0f7a4_12 rfl (by decide) rfl ?_
  refine z_iload_n X 0 dJ5_newCapacity_0f7a4_13 rfl rfl ?_
  refine z_iload_n X 1 dJ5_newCapacity_0f7a4_14 rfl rfl ?_
  refine z_isub X dJ5_newCapacity_0f7a4_15 ?_
  rw [show (((nI kb) - (16 : Int32)) : Int32) = nI (kb - 16) from pk_sub (b := 16) (by omega)]
  refine z_istore X [(4, .int (nI (kb - 16))), (3, .int (nI kb)), (2, .int (16 : Int32)), (0, .ref qb), (1, .int (nI kb))] dJ5_newCapacity_0f7a4_16 (by decide) rfl ?_
  refine z_iload_n X 2 dJ5_newCapacity_0f7a4_18 rfl rfl ?_
  refine z_iload X 0 dJ5_newCapacity_0f7a4_19 rfl ?_
  refine z_iload_n X 2 dJ5_newCapacity_0f7a4_21 rfl rfl ?_
  refine z_iconst X (2 : Int32) dJ5_newCapacity_0f7a4_22 (by decide) ?_
  refine z_aload_n X 3 dJ5_newCapacity_0f7a4_23 rfl rfl ?_
  refine z_get (q0 := 0) (k := 1) (ci := 12) X IW_P iw_J4 rfl qf_J5_J5_coder (by decide) dJ5_newCapacity_0f7a4_24 rfl rfl ?_
  refine z_ishl X dJ5_newCapacity_0f7a4_27 ?_
  rw [sb_shl0]
  refine z_iadd X dJ5_newCapacity_0f7a4_28 ?_
  rw [show (((16 : Int32) + (2 : Int32)) : Int32) = (18 : Int32) from rfl]
  refine z_oS (rest := []) (wr := [(qb, .inr (12, [.ref vb, .int 0, .int 0, .int (nI nb)])), (vb, .inl (g 5, 16, .inl fb))]) X (KF_ok ev) (kc_of (KF_ok ev) (fun _ _ _ q => q) hK hA (pm_bkc (wr := [(qb, .inr (12, [.ref vb, .int 0, .int 0, .int (nI nb)])), (vb, .inl (g 5, 16, .inl fb))]) (List.Perm.refl _))) hA k_J8_newLength_cabcc (c_sb_newLen l hfl ev D g (kb - 16) (by omega)) ql_J5_J8_newLength_cabcc dJ5_newCapacity_0f7a4_29 (List.Perm.refl _) rfl rfl ⟨Nat.le_of_ble_eq_true rfl, Nat.le_of_ble_eq_true rfl, rfl, rfl, Nat.le_of_ble_eq_true rfl, Nat.le_of_ble_eq_true rfl⟩ (Nat.le_of_ble_eq_true rfl) (fun a ha => ?_)
  refine z_perm (ws' := [(qb, .inr (12, [.ref vb, .int 0, .int 0, .int (nI nb)])), (vb, .inl (g 5, 16, .inl fb))]) (List.Perm.refl _) ?_
  refine z_istore X [(5, .int (34 : Int32)), (4, .int (nI (kb - 16))), (3, .int (nI kb)), (2, .int (16 : Int32)), (0, .ref qb), (1, .int (nI kb))] dJ5_newCapacity_0f7a4_32 (by decide) rfl ?_
  refine z_iload X 0 dJ5_newCapacity_0f7a4_34 rfl ?_
  refine z_ldcI (2147483647 : Int32) X qx_kMax dJ5_newCapacity_0f7a4_36 ?_
  refine z_icmp_ne (F1 := some ()) (F2 := some ()) (o := ()) X 51 dJ5_newCapacity_0f7a4_38 (by decide) (by unfold brn; split <;> rfl) (fun hh _ => absurd hh (by decide)) (fun _ _ => ?_)
  refine z_iload X 0 dJ5_newCapacity_0f7a4_51 rfl ?_
  refine z_aload_n X 4 dJ5_newCapacity_0f7a4_53 rfl rfl ?_
  refine z_get (q0 := 0) (k := 1) (ci := 12) X IW_P iw_J4 rfl qf_J5_J5_coder (by decide) dJ5_newCapacity_0f7a4_54 rfl rfl ?_
  refine z_ishr X dJ5_newCapacity_0f7a4_57 ?_
  rw [sb_shr0]
  exact z_oiret X hQ (Nat.le_of_ble_eq_true rfl) (Nat.le_of_ble_eq_true rfl) hr dJ5_newCapacity_0f7a4_58 () trivial rfl (List.Perm.refl _)

theorem k_J7_copyOf_9075b : cardS yJ7_copyOf_9075b (Cond.code yJ7_copyOf_9075b cJ7_copyOf_9075b 3 (some (.array .byte))) 2 := ⟨qs_J7_copyOf_9075b, qc_J7_copyOf_9075b, qn_J7, by decide +kernel, by decide +kernel, by decide +kernel⟩

theorem dJ7_copyOf_9075b_0 : decode cJ7_copyOf_9075b 0 = .ok (.iload_n 1, 1) := by decide +kernel
theorem dJ7_copyOf_9075b_1 : decode cJ7_copyOf_9075b 1 = .ok (.aload_n 0, 1) := by decide +kernel
theorem dJ7_copyOf_9075b_2 : decode cJ7_copyOf_9075b 2 = .ok (.arraylength, 1) := by decide +kernel
theorem dJ7_copyOf_9075b_3 : decode cJ7_copyOf_9075b 3 = .ok (.if_icmp .ne 11, 3) := by decide +kernel
theorem dJ7_copyOf_9075b_6 : decode cJ7_copyOf_9075b 6 = .ok (.aload_n 0, 1) := by decide +kernel
theorem dJ7_copyOf_9075b_7 : decode cJ7_copyOf_9075b 7 = .ok (.invokevirtual 310, 3) := by decide +kernel
theorem dJ7_copyOf_9075b_10 : decode cJ7_copyOf_9075b 10 = .ok (.checkcast 311, 3) := by decide +kernel
theorem dJ7_copyOf_9075b_13 : decode cJ7_copyOf_9075b 13 = .ok (.areturn, 1) := by decide +kernel
theorem dJ7_copyOf_9075b_14 : decode cJ7_copyOf_9075b 14 = .ok (.iload_n 1, 1) := by decide +kernel
theorem dJ7_copyOf_9075b_15 : decode cJ7_copyOf_9075b 15 = .ok (.newarray .byte, 2) := by decide +kernel
theorem dJ7_copyOf_9075b_17 : decode cJ7_copyOf_9075b 17 = .ok (.astore_n 2, 1) := by decide +kernel
theorem dJ7_copyOf_9075b_18 : decode cJ7_copyOf_9075b 18 = .ok (.aload_n 0, 1) := by decide +kernel
theorem dJ7_copyOf_9075b_19 : decode cJ7_copyOf_9075b 19 = .ok (.iconst 0, 1) := by decide +kernel
theorem dJ7_copyOf_9075b_20 : decode cJ7_copyOf_9075b 20 = .ok (.aload_n 2, 1) := by decide +kernel
theorem dJ7_copyOf_9075b_21 : decode cJ7_copyOf_9075b 21 = .ok (.iconst 0, 1) := by decide +kernel
theorem dJ7_copyOf_9075b_22 : decode cJ7_copyOf_9075b 22 = .ok (.aload_n 0, 1) := by decide +kernel
theorem dJ7_copyOf_9075b_23 : decode cJ7_copyOf_9075b 23 = .ok (.arraylength, 1) := by decide +kernel
theorem dJ7_copyOf_9075b_24 : decode cJ7_copyOf_9075b 24 = .ok (.iload_n 1, 1) := by decide +kernel
theorem dJ7_copyOf_9075b_25 : decode cJ7_copyOf_9075b 25 = .ok (.invokestatic 304, 3) := by decide +kernel
theorem dJ7_copyOf_9075b_28 : decode cJ7_copyOf_9075b 28 = .ok (.invokestatic 150, 3) := by decide +kernel
theorem dJ7_copyOf_9075b_31 : decode cJ7_copyOf_9075b 31 = .ok (.aload_n 2, 1) := by decide +kernel
theorem dJ7_copyOf_9075b_32 : decode cJ7_copyOf_9075b 32 = .ok (.areturn, 1) := by decide +kernel
set_option maxHeartbeats 4000000 in
set_option maxRecDepth 100000 in
theorem c_sb_cpy (l : Launch) (hfl : l.stackTraces = false) (ev : LEv) (D : va_G) (g : Nat → ClassId) (vb : Nat) (fb : Nat → Int32) (hf : sb_Fit fb) : MO l yJ7_copyOf_9075b (Cond.code yJ7_copyOf_9075b cJ7_copyOf_9075b 3 (some (.array .byte))) { frames := 1, cells := 1, slots := 34, locals := 40 } (KF ev) D g [.ref vb, .int (34 : Int32)] [(vb, .inl (g 5, 16, .inl fb))] (fun _ : Nat => True) (fun a => some (.ref a)) (fun a => [(a, .inl (g 5, 34, .inl (va_cpy fb (fun _ => 0) 0 0 16))), (vb, .inl (g 5, 16, .inl fb))]) 1 34 := by
  refine z_o_start (by decide) (Nat.le_of_ble_eq_true rfl) ?_
  intro p e s m args below meth c Q A X hr hin hK hA hQ
  refine z_lv (lv' := [(0, .ref vb), (1, .int (34 : Int32))]) rfl ?_
  refine z_iload_n X 1 dJ7_copyOf_9075b_0 rfl rfl ?_
  refine z_aload_n X 0 dJ7_copyOf_9075b_1 rfl rfl ?_
  refine z_alen (q0 := 0) (v := (16 : Int32)) X IW_P 5 dJ7_copyOf_9075b_2 rfl rfl rfl ?_
  refine z_icmp_ne (F1 := some ()) (F2 := some ()) (o := ()) X 14 dJ7_copyOf_9075b_3 (by decide) (by unfold brn; split <;> rfl) (fun hh _ => absurd hh (by decide)) (fun _ _ => ?_)
  refine z_iload_n X 1 dJ7_copyOf_9075b_14 rfl rfl ?_
  refine z_newa (atype := .byte) (a0 := (34, .inl (fun _ => 0))) (ty := .byte) 5 X hA qa_byte rfl rfl (fun _ _ h => h) (fun _ => rfl) (by decide) rfl (Nat.le_of_ble_eq_true rfl) (Nat.le_of_ble_eq_true rfl) (Nat.le_of_ble_eq_true rfl) dJ7_copyOf_9075b_15 (fun a5 => ?_)
  refine z_perm (ws' := [(a5, .inl (g 5, 34, .inl (fun _ => 0))), (vb, .inl (g 5, 16, .inl fb))]) List.perm_append_comm ?_
  refine z_astore_n X [(2, .ref a5), (0, .ref vb), (1, .int (34 : Int32))] dJ7_copyOf_9075b_17 rfl (by decide) rfl ?_
  refine z_aload_n X 1 dJ7_copyOf_9075b_18 rfl rfl ?_
  refine z_iconst X (0 : Int32) dJ7_copyOf_9075b_19 (by decide) ?_
  refine z_aload_n X 0 dJ7_copyOf_9075b_20 rfl rfl ?_
  refine z_iconst X (0 : Int32) dJ7_copyOf_9075b_21 (by decide) ?_
  refine z_aload_n X 1 dJ7_copyOf_9075b_22 rfl rfl ?_
  refine z_alen (q0 := 1) (v := (16 : Int32)) X IW_P 5 dJ7_copyOf_9075b_23 rfl rfl rfl ?_
  refine z_iload_n X 2 dJ7_copyOf_9075b_24 rfl rfl ?_
  refine z_mmin X ql_J7_mmin dJ7_copyOf_9075b_25 (Nat.le_of_ble_eq_true rfl) (Nat.le_of_ble_eq_true rfl) (Nat.le_of_ble_eq_true rfl) (Nat.le_of_ble_eq_true rfl) ?_
  rw [show (if (34 : Int32) < (16 : Int32) then (34 : Int32) else (16 : Int32)) = 16 from rfl]
  refine z_copyb (q0 := 1) (q1 := 0) (ws' := [(a5, .inl (g 5, 34, .inl (va_cpy fb (fun _ => 0) 0 0 16))), (vb, .inl (g 5, 16, .inl fb))]) X ql_J7_ac dJ7_copyOf_9075b_28 rfl rfl ⟨by decide, by decide, by decide, by decide, by decide⟩ hf rfl (Nat.le_of_ble_eq_true rfl) (Nat.le_of_ble_eq_true rfl) ?_
  refine z_aload_n X 0 dJ7_copyOf_9075b_31 rfl rfl ?_
  exact z_oaret X hQ (Nat.le_of_ble_eq_true rfl) (Nat.le_of_ble_eq_true rfl) hr (Or.inr ⟨_, rfl⟩) dJ7_copyOf_9075b_32 a5 trivial rfl (List.Perm.refl _)

theorem dJ5_ensureCapacityInternal_d00df_0 : decode cJ5_ensureCapacityInternal_d00df 0 = .ok (.aload_n 0, 1) := by decide +kernel
theorem dJ5_ensureCapacityInternal_d00df_1 : decode cJ5_ensureCapacityInternal_d00df 1 = .ok (.getfield 15, 3) := by decide +kernel
theorem dJ5_ensureCapacityInternal_d00df_4 : decode cJ5_ensureCapacityInternal_d00df 4 = .ok (.arraylength, 1) := by decide +kernel
theorem dJ5_ensureCapacityInternal_d00df_5 : decode cJ5_ensureCapacityInternal_d00df 5 = .ok (.aload_n 0, 1) := by decide +kernel
theorem dJ5_ensureCapacityInternal_d00df_6 : decode cJ5_ensureCapacityInternal_d00df 6 = .ok (.getfield 22, 3) := by decide +kernel
theorem dJ5_ensureCapacityInternal_d00df_9 : decode cJ5_ensureCapacityInternal_d00df 9 = .ok (.ishr, 1) := by decide +kernel
theorem dJ5_ensureCapacityInternal_d00df_10 : decode cJ5_ensureCapacityInternal_d00df 10 = .ok (.istore_n 2, 1) := by decide +kernel
theorem dJ5_ensureCapacityInternal_d00df_11 : decode cJ5_ensureCapacityInternal_d00df 11 = .ok (.iload_n 1, 1) := by decide +kernel
theorem dJ5_ensureCapacityInternal_d00df_12 : decode cJ5_ensureCapacityInternal_d00df 12 = .ok (.iload_n 2, 1) := by decide +kernel
theorem dJ5_ensureCapacityInternal_d00df_13 : decode cJ5_ensureCapacityInternal_d00df 13 = .ok (.isub, 1) := by decide +kernel
theorem dJ5_ensureCapacityInternal_d00df_14 : decode cJ5_ensureCapacityInternal_d00df 14 = .ok (.ifCond .le 24, 3) := by decide +kernel
theorem dJ5_ensureCapacityInternal_d00df_17 : decode cJ5_ensureCapacityInternal_d00df 17 = .ok (.aload_n 0, 1) := by decide +kernel
theorem dJ5_ensureCapacityInternal_d00df_18 : decode cJ5_ensureCapacityInternal_d00df 18 = .ok (.aload_n 0, 1) := by decide +kernel
theorem dJ5_ensureCapacityInternal_d00df_19 : decode cJ5_ensureCapacityInternal_d00df 19 = .ok (.getfield 15, 3) := by decide +kernel
theorem dJ5_ensureCapacityInternal_d00df_22 : decode cJ5_ensureCapacityInternal_d00df 22 = .ok (.aload_n 0, 1) := by decide +kernel
theorem dJ5_ensureCapacityInternal_d00df_23 : decode cJ5_ensureCapacityInternal_d00df 23 = .ok (.iload_n 1, 1) := by decide +kernel
theorem dJ5_ensureCapacityInternal_d00df_24 : decode cJ5_ensureCapacityInternal_d00df 24 = .ok (.invokevirtual 104, 3) := by decide +kernel
theorem dJ5_ensureCapacityInternal_d00df_27 : decode cJ5_ensureCapacityInternal_d00df 27 = .ok (.aload_n 0, 1) := by decide +kernel
theorem dJ5_ensureCapacityInternal_d00df_28 : decode cJ5_ensureCapacityInternal_d00df 28 = .ok (.getfield 22, 3) := by decide +kernel
theorem dJ5_ensureCapacityInternal_d00df_31 : decode cJ5_ensureCapacityInternal_d00df 31 = .ok (.ishl, 1) := by decide +kernel
theorem dJ5_ensureCapacityInternal_d00df_32 : decode cJ5_ensureCapacityInternal_d00df 32 = .ok (.invokestatic 108, 3) := by decide +kernel
theorem dJ5_ensureCapacityInternal_d00df_35 : decode cJ5_ensureCapacityInternal_d00df 35 = .ok (.putfield 15, 3) := by decide +kernel
theorem dJ5_ensureCapacityInternal_d00df_38 : decode cJ5_ensureCapacityInternal_d00df 38 = .ok (.return_, 1) := by decide +kernel
set_option maxHeartbeats 4000000 in
set_option maxRecDepth 100000 in
theorem c_sb_ens0 (l : Launch) (hfl : l.stackTraces = false) (ev : LEv) (D : va_G) (g : Nat → ClassId) (qb vb mb nb kb : Nat) (fb : Nat → Int32) (tl : List Int32) (hok : SBok nb tl (vb, mb, fb)) (hle : kb ≤ mb) (hm : mb ≤ 34) : MO l yJ5_ensureCapacityInternal_d00df (Cond.code yJ5_ensureCapacityInternal_d00df cJ5_ensureCapacityInternal_d00df 3 none) { frames := 3, cells := 1, slots := 34, locals := 88 } (KF ev) D g [.ref qb, .int (nI kb)] [(qb, .inr (12, [.ref vb, .int 0, .int 0, .int (nI nb)])), (vb, .inl (g 5, mb, .inl fb))] (fun a : SBt => SBok nb tl a ∧ kb ≤ a.2.1) (fun _ => none) (fun a => SBW g qb nb a) 1 34 := by
  refine z_o_start (by decide) (Nat.le_of_ble_eq_true rfl) ?_
  intro p e s m args below meth c Q A X hr hin hK hA hQ
  refine z_lv (lv' := [(0, .ref qb), (1, .int (nI kb))]) rfl ?_
  refine z_aload_n X 0 dJ5_ensureCapacityInternal_d00df_0 rfl rfl ?_
  refine z_get (q0 := 0) (k := 0) (ci := 12) X IW_P iw_J4 rfl qf_J5_J5_value (by decide) dJ5_ensureCapacityInternal_d00df_1 rfl rfl ?_
  refine z_alen (q0 := 1) (v := nI mb) X IW_P 5 dJ5_ensureCapacityInternal_d00df_4 rfl rfl rfl ?_
  refine z_aload_n X 0 dJ5_ensureCapacityInternal_d00df_5 rfl rfl ?_
  refine z_get (q0 := 0) (k := 1) (ci := 12) X IW_P iw_J4 rfl qf_J5_J5_coder (by decide) dJ5_ensureCapacityInternal_d00df_6 rfl rfl ?_
  refine z_ishr X dJ5_ensureCapacityInternal_d00df_9 ?_
  rw [sb_shr0]
  refine z_istore_n X [(2, .int (nI mb)), (0, .ref qb), (1, .int (nI kb))] dJ5_ensureCapacityInternal_d00df_10 rfl (by decide) rfl ?_
  refine z_iload_n X 2 dJ5_ensureCapacityInternal_d00df_11 rfl rfl ?_
  refine z_iload_n X 0 dJ5_ensureCapacityInternal_d00df_12 rfl rfl ?_
  refine z_isub X dJ5_ensureCapacityInternal_d00df_13 ?_
  refine z_if_le (F1 := some ()) (F2 := some ()) (o := ()) X 38 dJ5_ensureCapacityInternal_d00df_14 (by decide) (by unfold brn; split <;> rfl) (fun _ _ => ?_) (fun hh _ => absurd (sb_le0 hle (by omega)) hh)
  exact z_ovret X hQ (Nat.le_of_ble_eq_true rfl) (Nat.le_of_ble_eq_true rfl) hr dJ5_ensureCapacityInternal_d00df_38 (vb, mb, fb) ⟨hok, hle⟩ rfl (List.Perm.refl _)

set_option maxHeartbeats 4000000 in
set_option maxRecDepth 100000 in
theorem c_sb_ens1 (l : Launch) (hfl : l.stackTraces = false) (ev : LEv) (D : va_G) (g : Nat → ClassId) (qb vb nb kb : Nat) (fb : Nat → Int32) (tl : List Int32) (hok : SBok nb tl (vb, 16, fb)) (h1 : 16 < kb) (h2 : kb ≤ 34) : MO l yJ5_ensureCapacityInternal_d00df (Cond.code yJ5_ensureCapacityInternal_d00df cJ5_ensureCapacityInternal_d00df 3 none) { frames := 3, cells := 1, slots := 34, locals := 88 } (KF ev) D g [.ref qb, .int (nI kb)] [(qb, .inr (12, [.ref vb, .int 0, .int 0, .int (nI nb)])), (vb, .inl (g 5, 16, .inl fb))] (fun a : SBt => SBok nb tl a ∧ kb ≤ a.2.1) (fun _ => none) (fun a => SBW g qb nb a) 1 34 := by
  refine z_o_start (by decide) (Nat.le_of_ble_eq_true rfl) ?_
  intro p e s m args below meth c Q A X hr hin hK hA hQ
  refine z_lv (lv' := [(0, .ref qb), (1, .int (nI kb))]) rfl ?_
  refine z_aload_n X 0 dJ5_ensureCapacityInternal_d00df_0 rfl rfl ?_
  refine z_get (q0 := 0) (k := 0) (ci := 12) X IW_P iw_J4 rfl qf_J5_J5_value (by decide) dJ5_ensureCapacityInternal_d00df_1 rfl rfl ?_
  refine z_alen (q0 := 1) (v := (16 : Int32)) X IW_P 5 dJ5_ensureCapacityInternal_d00df_4 rfl rfl rfl ?_
  refine z_aload_n X 0 dJ5_ensureCapacityInternal_d00df_5 rfl rfl ?_
  refine z_get (q0 := 0) (k := 1) (ci := 12) X IW_P iw_J4 rfl qf_J5_J5_coder (by decide) dJ5_ensureCapacityInternal_d00df_6 rfl rfl ?_
  refine z_ishr X dJ5_ensureCapacityInternal_d00df_9 ?_
  rw [sb_shr0]
  refine z_istore_n X [(2, .int (16 : Int32)), (0, .ref qb), (1, .int (nI kb))] dJ5_ensureCapacityInternal_d00df_10 rfl (by decide) rfl ?_
  refine z_iload_n X 2 dJ5_ensureCapacityInternal_d00df_11 rfl rfl ?_
  refine z_iload_n X 0 dJ5_ensureCapacityInternal_d00df_12 rfl rfl ?_
  refine z_isub X dJ5_ensureCapacityInternal_d00df_13 ?_
  refine z_if_le (F1 := some ()) (F2 := some ()) (o := ()) X 38 dJ5_ensureCapacityInternal_d00df_14 (by decide) (by unfold brn; split <;> rfl) (fun hh _ => absurd hh (sb_nle0 (n := 16) h1 (by omega))) (fun _ _ => ?_)
  refine z_aload_n X 1 dJ5_ensureCapacityInternal_d00df_17 rfl rfl ?_
  refine z_aload_n X 1 dJ5_ensureCapacityInternal_d00df_18 rfl rfl ?_
  refine z_get (q0 := 0) (k := 0) (ci := 12) X IW_P iw_J4 rfl qf_J5_J5_value (by decide) dJ5_ensureCapacityInternal_d00df_19 rfl rfl ?_
  refine z_aload_n X 1 dJ5_ensureCapacityInternal_d00df_22 rfl rfl ?_
  refine z_iload_n X 2 dJ5_ensureCapacityInternal_d00df_23 rfl rfl ?_
  refine z_oU (n := 1) (rest := [.ref vb, .ref qb]) (wr := []) (x := yJ5_newCapacity_0f7a4) (owner := "java/lang/AbstractStringBuilder") (C := RJ4) X (KF_ok ev) (kc_of (KF_ok ev) (fun _ _ _ q => q) hK hA (pm_bkc (wr := []) (perm_of (n := 2) (E := [(qb, .inr (12, [.ref vb, .int 0, .int 0, .int (nI nb)])), (vb, .inl (g 5, 16, .inl fb))]) (wc := [(qb, .inr (12, [.ref vb, .int 0, .int 0, .int (nI nb)])), (vb, .inl (g 5, 16, .inl fb))]) (wr := []) [0, 1] [] rfl rfl rfl (by decide +kernel)))) hA (c_sb_newCap l hfl ev D g qb vb nb kb fb h1 h2) qc_J5_newCapacity_0f7a4 qn_J5 ⟨by decide, by decide⟩ (by decide +kernel) ql_J5_J5_newCapacity_0f7a4 qx_same2 (va_Decl.of (X.1.2.2.2.2 _ qi_J5_newCapacity_0f7a4) (X.1.2.2.2.2 _ qc_J5_newCapacity_0f7a4)) (sel_sb (ev := ev) X hK (List.mem_of_getElem? (i := 1) rfl) ⟨by decide, by decide⟩ qi_J5_newCapacity_0f7a4 qx_same2) qi_J5_newCapacity_0f7a4 dJ5_ensureCapacityInternal_d00df_24 (perm_of (n := 2) (E := [(qb, .inr (12, [.ref vb, .int 0, .int 0, .int (nI nb)])), (vb, .inl (g 5, 16, .inl fb))]) (wc := [(qb, .inr (12, [.ref vb, .int 0, .int 0, .int (nI nb)])), (vb, .inl (g 5, 16, .inl fb))]) (wr := []) [0, 1] [] rfl rfl rfl (by decide +kernel)) (rc_of (q0 := 0) (ci := 12) X rfl rfl) rfl rfl ⟨Nat.le_of_ble_eq_true rfl, Nat.le_of_ble_eq_true rfl, rfl, rfl, Nat.le_of_ble_eq_true rfl, Nat.le_of_ble_eq_true rfl⟩ (Nat.le_of_ble_eq_true rfl) (fun a ha => ?_)
  refine z_perm (ws' := [(qb, .inr (12, [.ref vb, .int 0, .int 0, .int (nI nb)])), (vb, .inl (g 5, 16, .inl fb))]) (List.Perm.refl _) ?_
  refine z_aload_n X 1 dJ5_ensureCapacityInternal_d00df_27 rfl rfl ?_
  refine z_get (q0 := 0) (k := 1) (ci := 12) X IW_P iw_J4 rfl qf_J5_J5_coder (by decide) dJ5_ensureCapacityInternal_d00df_28 rfl rfl ?_
  refine z_ishl X dJ5_ensureCapacityInternal_d00df_31 ?_
  rw [sb_shl0]
  refine z_oS (rest := [.ref qb]) (wr := [(qb, .inr (12, [.ref vb, .int 0, .int 0, .int (nI nb)]))]) X (KF_ok ev) (kc_of (KF_ok ev) (fun _ _ _ q => q) hK hA (pm_bkc (wr := [(qb, .inr (12, [.ref vb, .int 0, .int 0, .int (nI nb)]))]) (perm_of (n := 2) (E := [(qb, .inr (12, [.ref vb, .int 0, .int 0, .int (nI nb)])), (vb, .inl (g 5, 16, .inl fb))]) (wc := [(vb, .inl (g 5, 16, .inl fb))]) (wr := [(qb, .inr (12, [.ref vb, .int 0, .int 0, .int (nI nb)]))]) [1] [0] rfl rfl rfl (by decide +kernel)))) hA k_J7_copyOf_9075b (c_sb_cpy l hfl ev D g vb fb hok.2.2.1) ql_J5_J7_copyOf_9075b dJ5_ensureCapacityInternal_d00df_32 (perm_of (n := 2) (E := [(qb, .inr (12, [.ref vb, .int 0, .int 0, .int (nI nb)])), (vb, .inl (g 5, 16, .inl fb))]) (wc := [(vb, .inl (g 5, 16, .inl fb))]) (wr := [(qb, .inr (12, [.ref vb, .int 0, .int 0, .int (nI nb)]))]) [1] [0] rfl rfl rfl (by decide +kernel)) rfl rfl ⟨Nat.le_of_ble_eq_true rfl, Nat.le_of_ble_eq_true rfl, rfl, rfl, Nat.le_of_ble_eq_true rfl, Nat.le_of_ble_eq_true rfl⟩ (Nat.le_of_ble_eq_true rfl) (fun a ha => ?_)
  refine z_perm (ws' := [(qb, .inr (12, [.ref vb, .int 0, .int 0, .int (nI nb)])), (a, .inl (g 5, 34, .inl (va_cpy fb (fun _ => 0) 0 0 16))), (vb, .inl (g 5, 16, .inl fb))]) (List.Perm.refl _) ?_
  refine z_put (q0 := 0) (k := 0) (ci := 12) (ws' := [(qb, .inr (12, [.ref a, .int 0, .int 0, .int (nI nb)])), (a, .inl (g 5, 34, .inl (va_cpy fb (fun _ => 0) 0 0 16))), (vb, .inl (g 5, 16, .inl fb))]) X iw_J4 tyJ4_ok nmJ4 rfl qf_J5_J5_value (by decide) rfl rfl dJ5_ensureCapacityInternal_d00df_35 rfl rfl rfl (Nat.le_of_ble_eq_true rfl) rfl ?_
  refine z_drop (ws' := [(qb, .inr (12, [.ref a, .int 0, .int 0, .int (nI nb)])), (a, .inl (g 5, 34, .inl (va_cpy fb (fun _ => 0) 0 0 16)))]) (perm_of (n := 3) (E := [(qb, .inr (12, [.ref a, .int 0, .int 0, .int (nI nb)])), (a, .inl (g 5, 34, .inl (va_cpy fb (fun _ => 0) 0 0 16))), (vb, .inl (g 5, 16, .inl fb))]) (wc := [(qb, .inr (12, [.ref a, .int 0, .int 0, .int (nI nb)])), (a, .inl (g 5, 34, .inl (va_cpy fb (fun _ => 0) 0 0 16)))]) (wr := [(vb, .inl (g 5, 16, .inl fb))]) [0, 1] [2] rfl rfl rfl (by decide +kernel)) ?_
  exact z_ovret X hQ (Nat.le_of_ble_eq_true rfl) (Nat.le_of_ble_eq_true rfl) hr dJ5_ensureCapacityInternal_d00df_38 (a, 34, va_cpy fb (fun _ => 0) 0 0 16) ⟨hok.grow, h2⟩ rfl (List.Perm.refl _)

theorem c_sb_ens (l : Launch) (hfl : l.stackTraces = false) (ev : LEv) (D : va_G) (g : Nat → ClassId) (qb vb mb nb kb : Nat) (fb : Nat → Int32) (tl : List Int32) (hok : SBok nb tl (vb, mb, fb)) (hk : kb ≤ 34) : MO l yJ5_ensureCapacityInternal_d00df (Cond.code yJ5_ensureCapacityInternal_d00df cJ5_ensureCapacityInternal_d00df 3 none) { frames := 3, cells := 1, slots := 34, locals := 88 } (KF ev) D g [.ref qb, .int (nI kb)] [(qb, .inr (12, [.ref vb, .int 0, .int 0, .int (nI nb)])), (vb, .inl (g 5, mb, .inl fb))] (fun a : SBt => SBok nb tl a ∧ kb ≤ a.2.1) (fun _ => none) (fun a => SBW g qb nb a) 1 34 := by
  by_cases hle : kb ≤ mb
  · exact c_sb_ens0 l hfl ev D g qb vb mb nb kb fb tl hok hle (by have : mb = 16 ∨ mb = 34 := hok.1; omega)
  · have h16 : mb = 16 := by have : mb = 16 ∨ mb = 34 := hok.1; omega
    subst h16
    exact c_sb_ens1 l hfl ev D g qb vb nb kb fb tl hok (by omega) hk

theorem k_J6_stringSize_0f7a4 : cardS yJ6_stringSize_0f7a4 (Cond.code yJ6_stringSize_0f7a4 cJ6_stringSize_0f7a4 4 (some .int)) 1 := ⟨qs_J6_stringSize_0f7a4, qc_J6_stringSize_0f7a4, qn_J6, by decide +kernel, by decide +kernel, by decide +kernel⟩

theorem dJ6_stringSize_0f7a4_0 : decode cJ6_stringSize_0f7a4 0 = .ok (.iconst 1, 1) := by decide +kernel
theorem dJ6_stringSize_0f7a4_1 : decode cJ6_stringSize_0f7a4 1 = .ok (.istore_n 1, 1) := by decide +kernel
theorem dJ6_stringSize_0f7a4_2 : decode cJ6_stringSize_0f7a4 2 = .ok (.iload_n 0, 1) := by decide +kernel
theorem dJ6_stringSize_0f7a4_3 : decode cJ6_stringSize_0f7a4 3 = .ok (.ifCond .lt 8, 3) := by decide +kernel
theorem dJ6_stringSize_0f7a4_6 : decode cJ6_stringSize_0f7a4 6 = .ok (.iconst 0, 1) := by decide +kernel
theorem dJ6_stringSize_0f7a4_7 : decode cJ6_stringSize_0f7a4 7 = .ok (.istore_n 1, 1) := by decide +kernel
theorem dJ6_stringSize_0f7a4_8 : decode cJ6_stringSize_0f7a4 8 = .ok (.iload_n 0, 1) := by decide +kernel
theorem dJ6_stringSize_0f7a4_9 : decode cJ6_stringSize_0f7a4 9 = .ok (.ineg, 1) := by decide +kernel
theorem dJ6_stringSize_0f7a4_10 : decode cJ6_stringSize_0f7a4 10 = .ok (.istore_n 0, 1) := by decide +kernel
theorem dJ6_stringSize_0f7a4_11 : decode cJ6_stringSize_0f7a4 11 = .ok (.bipush (-10), 2) := by decide +kernel
theorem dJ6_stringSize_0f7a4_13 : decode cJ6_stringSize_0f7a4 13 = .ok (.istore_n 2, 1) := by decide +kernel
theorem dJ6_stringSize_0f7a4_14 : decode cJ6_stringSize_0f7a4 14 = .ok (.iconst 1, 1) := by decide +kernel
theorem dJ6_stringSize_0f7a4_15 : decode cJ6_stringSize_0f7a4 15 = .ok (.istore_n 3, 1) := by decide +kernel
theorem dJ6_stringSize_0f7a4_16 : decode cJ6_stringSize_0f7a4 16 = .ok (.iload_n 3, 1) := by decide +kernel
theorem dJ6_stringSize_0f7a4_17 : decode cJ6_stringSize_0f7a4 17 = .ok (.bipush 10, 2) := by decide +kernel
theorem dJ6_stringSize_0f7a4_19 : decode cJ6_stringSize_0f7a4 19 = .ok (.if_icmp .ge 23, 3) := by decide +kernel
theorem dJ6_stringSize_0f7a4_22 : decode cJ6_stringSize_0f7a4 22 = .ok (.iload_n 0, 1) := by decide +kernel
theorem dJ6_stringSize_0f7a4_23 : decode cJ6_stringSize_0f7a4 23 = .ok (.iload_n 2, 1) := by decide +kernel
theorem dJ6_stringSize_0f7a4_24 : decode cJ6_stringSize_0f7a4 24 = .ok (.if_icmp .le 7, 3) := by decide +kernel
theorem dJ6_stringSize_0f7a4_27 : decode cJ6_stringSize_0f7a4 27 = .ok (.iload_n 3, 1) := by decide +kernel
theorem dJ6_stringSize_0f7a4_28 : decode cJ6_stringSize_0f7a4 28 = .ok (.iload_n 1, 1) := by decide +kernel
theorem dJ6_stringSize_0f7a4_29 : decode cJ6_stringSize_0f7a4 29 = .ok (.iadd, 1) := by decide +kernel
theorem dJ6_stringSize_0f7a4_30 : decode cJ6_stringSize_0f7a4 30 = .ok (.ireturn, 1) := by decide +kernel
theorem dJ6_stringSize_0f7a4_31 : decode cJ6_stringSize_0f7a4 31 = .ok (.bipush 10, 2) := by decide +kernel
theorem dJ6_stringSize_0f7a4_33 : decode cJ6_stringSize_0f7a4 33 = .ok (.iload_n 2, 1) := by decide +kernel
theorem dJ6_stringSize_0f7a4_34 : decode cJ6_stringSize_0f7a4 34 = .ok (.imul, 1) := by decide +kernel
theorem dJ6_stringSize_0f7a4_35 : decode cJ6_stringSize_0f7a4 35 = .ok (.istore_n 2, 1) := by decide +kernel
theorem dJ6_stringSize_0f7a4_36 : decode cJ6_stringSize_0f7a4 36 = .ok (.iinc 3 1, 3) := by decide +kernel
theorem dJ6_stringSize_0f7a4_39 : decode cJ6_stringSize_0f7a4 39 = .ok (.goto (-23), 3) := by decide +kernel
theorem dJ6_stringSize_0f7a4_42 : decode cJ6_stringSize_0f7a4 42 = .ok (.bipush 10, 2) := by decide +kernel
theorem dJ6_stringSize_0f7a4_44 : decode cJ6_stringSize_0f7a4 44 = .ok (.iload_n 1, 1) := by decide +kernel
theorem dJ6_stringSize_0f7a4_45 : decode cJ6_stringSize_0f7a4 45 = .ok (.iadd, 1) := by decide +kernel
theorem dJ6_stringSize_0f7a4_46 : decode cJ6_stringSize_0f7a4 46 = .ok (.ireturn, 1) := by decide +kernel
set_option maxHeartbeats 4000000 in
set_option maxRecDepth 100000 in
theorem c_sb_size0 (l : Launch) (hfl : l.stackTraces = false) (ev : LEv) (D : va_G) (g : Nat → ClassId) (kb : Nat) (h1 : kb < 10) : MO l yJ6_stringSize_0f7a4 (Cond.code yJ6_stringSize_0f7a4 cJ6_stringSize_0f7a4 4 (some .int)) { frames := 0, cells := 0, slots := 0, locals := 0 } (KF ev) D g [.int (nI kb)] [] (fun _ : Unit => True) (fun _ => some (.int (nI (dn kb)))) (fun _ => []) 0 0 := by
  refine z_o_start (by decide) (Nat.le_of_ble_eq_true rfl) ?_
  intro p e s m args below meth c Q A X hr hin hK hA hQ
  refine z_lv (lv' := [(0, .int (nI kb))]) rfl ?_
  refine z_iconst X (1 : Int32) dJ6_stringSize_0f7a4_0 (by decide) ?_
  refine z_istore_n X [(1, .int (1 : Int32)), (0, .int (nI kb))] dJ6_stringSize_0f7a4_1 rfl (by decide) rfl ?_
  refine z_iload_n X 1 dJ6_stringSize_0f7a4_2 rfl rfl ?_
  refine z_if_lt (F1 := some ()) (F2 := some ()) (o := ()) X 11 dJ6_stringSize_0f7a4_3 (by decide) (by unfold brn; split <;> rfl) (fun hh _ => absurd hh (nI_pos (by omega))) (fun _ _ => ?_)
  refine z_iconst X (0 : Int32) dJ6_stringSize_0f7a4_6 (by decide) ?_
  refine z_istore_n X [(1, .int (0 : Int32)), (0, .int (nI kb))] dJ6_stringSize_0f7a4_7 rfl (by decide) rfl ?_
  refine z_iload_n X 1 dJ6_stringSize_0f7a4_8 rfl rfl ?_
  refine z_ineg X dJ6_stringSize_0f7a4_9 ?_
  refine z_istore_n X [(0, .int (-(nI kb))), (1, .int (0 : Int32))] dJ6_stringSize_0f7a4_10 rfl (by decide) rfl ?_
  refine z_bipush X (-10 : Int32) dJ6_stringSize_0f7a4_11 (by decide) ?_
  refine z_istore_n X [(2, .int (-10 : Int32)), (0, .int (-(nI kb))), (1, .int (0 : Int32))] dJ6_stringSize_0f7a4_13 rfl (by decide) rfl ?_
  refine z_iconst X (1 : Int32) dJ6_stringSize_0f7a4_14 (by decide) ?_
  refine z_istore_n X [(3, .int (1 : Int32)), (2, .int (-10 : Int32)), (0, .int (-(nI kb))), (1, .int (0 : Int32))] dJ6_stringSize_0f7a4_15 rfl (by decide) rfl ?_
  refine z_iload_n X 0 dJ6_stringSize_0f7a4_16 rfl rfl ?_
  refine z_bipush X (10 : Int32) dJ6_stringSize_0f7a4_17 (by decide) ?_
  refine z_icmp_ge (F1 := some ()) (F2 := some ()) (o := ()) X 42 dJ6_stringSize_0f7a4_19 (by decide) (by unfold brn; split <;> rfl) (fun hh _ => absurd hh (by decide)) (fun _ _ => ?_)
  refine z_iload_n X 2 dJ6_stringSize_0f7a4_22 rfl rfl ?_
  refine z_iload_n X 1 dJ6_stringSize_0f7a4_23 rfl rfl ?_
  refine z_icmp_le (F1 := some ()) (F2 := some ()) (o := ()) X 31 dJ6_stringSize_0f7a4_24 (by decide) (by unfold brn; split <;> rfl) (fun hh _ => absurd hh (fun z9 => absurd ((sz_neg10 kb (by omega)).mp z9) (by omega))) (fun _ _ => ?_)
  refine z_iload_n X 0 dJ6_stringSize_0f7a4_27 rfl rfl ?_
  refine z_iload_n X 3 dJ6_stringSize_0f7a4_28 rfl rfl ?_
  refine z_iadd X dJ6_stringSize_0f7a4_29 ?_
  rw [show (((1 : Int32) + (0 : Int32)) : Int32) = nI (dn kb) from (by unfold dn; rw [if_pos h1]; rfl)]
  exact z_oiret X hQ (Nat.le_of_ble_eq_true rfl) (Nat.le_of_ble_eq_true rfl) hr dJ6_stringSize_0f7a4_30 () trivial rfl (List.Perm.refl _)

set_option maxHeartbeats 4000000 in
set_option maxRecDepth 100000 in
theorem c_sb_size1 (l : Launch) (hfl : l.stackTraces = false) (ev : LEv) (D : va_G) (g : Nat → ClassId) (kb : Nat) (h1 : ¬ kb < 10) (h2 : kb < 100) : MO l yJ6_stringSize_0f7a4 (Cond.code yJ6_stringSize_0f7a4 cJ6_stringSize_0f7a4 4 (some .int)) { frames := 0, cells := 0, slots := 0, locals := 0 } (KF ev) D g [.int (nI kb)] [] (fun _ : Unit => True) (fun _ => some (.int (nI (dn kb)))) (fun _ => []) 0 0 := by
  refine z_o_start (by decide) (Nat.le_of_ble_eq_true rfl) ?_
  intro p e s m args below meth c Q A X hr hin hK hA hQ
  refine z_lv (lv' := [(0, .int (nI kb))]) rfl ?_
  refine z_iconst X (1 : Int32) dJ6_stringSize_0f7a4_0 (by decide) ?_
  refine z_istore_n X [(1, .int (1 : Int32)), (0, .int (nI kb))] dJ6_stringSize_0f7a4_1 rfl (by decide) rfl ?_
  refine z_iload_n X 1 dJ6_stringSize_0f7a4_2 rfl rfl ?_
  refine z_if_lt (F1 := some ()) (F2 := some ()) (o := ()) X 11 dJ6_stringSize_0f7a4_3 (by decide) (by unfold brn; split <;> rfl) (fun hh _ => absurd hh (nI_pos (by omega))) (fun _ _ => ?_)
  refine z_iconst X (0 : Int32) dJ6_stringSize_0f7a4_6 (by decide) ?_
  refine z_istore_n X [(1, .int (0 : Int32)), (0, .int (nI kb))] dJ6_stringSize_0f7a4_7 rfl (by decide) rfl ?_
  refine z_iload_n X 1 dJ6_stringSize_0f7a4_8 rfl rfl ?_
  refine z_ineg X dJ6_stringSize_0f7a4_9 ?_
  refine z_istore_n X [(0, .int (-(nI kb))), (1, .int (0 : Int32))] dJ6_stringSize_0f7a4_10 rfl (by decide) rfl ?_
  refine z_bipush X (-10 : Int32) dJ6_stringSize_0f7a4_11 (by decide) ?_
  refine z_istore_n X [(2, .int (-10 : Int32)), (0, .int (-(nI kb))), (1, .int (0 : Int32))] dJ6_stringSize_0f7a4_13 rfl (by decide) rfl ?_
  refine z_iconst X (1 : Int32) dJ6_stringSize_0f7a4_14 (by decide) ?_
  refine z_istore_n X [(3, .int (1 : Int32)), (2, .int (-10 : Int32)), (0, .int (-(nI kb))), (1, .int (0 : Int32))] dJ6_stringSize_0f7a4_15 rfl (by decide) rfl ?_
  refine z_iload_n X 0 dJ6_stringSize_0f7a4_16 rfl rfl ?_
  refine z_bipush X (10 : Int32) dJ6_stringSize_0f7a4_17 (by decide) ?_
  refine z_icmp_ge (F1 := some ()) (F2 := some ()) (o := ()) X 42 dJ6_stringSize_0f7a4_19 (by decide) (by unfold brn; split <;> rfl) (fun hh _ => absurd hh (by decide)) (fun _ _ => ?_)
  refine z_iload_n X 2 dJ6_stringSize_0f7a4_22 rfl rfl ?_
  refine z_iload_n X 1 dJ6_stringSize_0f7a4_23 rfl rfl ?_
  refine z_icmp_le (F1 := some ()) (F2 := some ()) (o := ()) X 31 dJ6_stringSize_0f7a4_24 (by decide) (by unfold brn; split <;> rfl) (fun _ _ => ?_) (fun hh _ => absurd ((sz_neg10 kb h2).mpr (by omega)) hh)
  refine z_bipush X (10 : Int32) dJ6_stringSize_0f7a4_31 (by decide) ?_
  refine z_iload_n X 1 dJ6_stringSize_0f7a4_33 rfl rfl ?_
  refine z_imul X dJ6_stringSize_0f7a4_34 ?_
  rw [show (((10 : Int32) * (-10 : Int32)) : Int32) = (-100 : Int32) from rfl]
  refine z_istore_n X [(2, .int (-100 : Int32)), (3, .int (1 : Int32)), (0, .int (-(nI kb))), (1, .int (0 : Int32))] dJ6_stringSize_0f7a4_35 rfl (by decide) rfl ?_
  refine z_iinc X 1 [(3, .int ((1 : Int32) + 1)), (2, .int (-100 : Int32)), (0, .int (-(nI kb))), (1, .int (0 : Int32))] dJ6_stringSize_0f7a4_36 rfl rfl (by decide) rfl ?_
  refine z_goto X 16 dJ6_stringSize_0f7a4_39 (by decide) ?_
  refine z_iload_n X 0 dJ6_stringSize_0f7a4_16 rfl rfl ?_
  refine z_bipush X (10 : Int32) dJ6_stringSize_0f7a4_17 (by decide) ?_
  refine z_icmp_ge (F1 := some ()) (F2 := some ()) (o := ()) X 42 dJ6_stringSize_0f7a4_19 (by decide) (by unfold brn; split <;> rfl) (fun hh _ => absurd hh (by decide)) (fun _ _ => ?_)
  refine z_iload_n X 2 dJ6_stringSize_0f7a4_22 rfl rfl ?_
  refine z_iload_n X 1 dJ6_stringSize_0f7a4_23 rfl rfl ?_
  refine z_icmp_le (F1 := some ()) (F2 := some ()) (o := ()) X 31 dJ6_stringSize_0f7a4_24 (by decide) (by unfold brn; split <;> rfl) (fun hh _ => absurd hh (sz_neg100 kb h2)) (fun _ _ => ?_)
  refine z_iload_n X 0 dJ6_stringSize_0f7a4_27 rfl rfl ?_
  refine z_iload_n X 3 dJ6_stringSize_0f7a4_28 rfl rfl ?_
  refine z_iadd X dJ6_stringSize_0f7a4_29 ?_
  rw [show ((((1 : Int32) + 1) + (0 : Int32)) : Int32) = nI (dn kb) from (by unfold dn; rw [if_neg h1]; rfl)]
  exact z_oiret X hQ (Nat.le_of_ble_eq_true rfl) (Nat.le_of_ble_eq_true rfl) hr dJ6_stringSize_0f7a4_30 () trivial rfl (List.Perm.refl _)

theorem c_sb_size (l : Launch) (hfl : l.stackTraces = false) (ev : LEv) (D : va_G) (g : Nat → ClassId) (kb : Nat) (hk : kb < 100) : MO l yJ6_stringSize_0f7a4 (Cond.code yJ6_stringSize_0f7a4 cJ6_stringSize_0f7a4 4 (some .int)) { frames := 0, cells := 0, slots := 0, locals := 0 } (KF ev) D g [.int (nI kb)] [] (fun _ : Unit => True) (fun _ => some (.int (nI (dn kb)))) (fun _ => []) 0 0 := by
  by_cases h1 : kb < 10
  · exact c_sb_size0 l hfl ev D g kb h1
  · exact c_sb_size1 l hfl ev D g kb h1 hk

theorem k_J6_getChars_ba4f3 : cardS yJ6_getChars_ba4f3 (Cond.code yJ6_getChars_ba4f3 cJ6_getChars_ba4f3 7 (some .int)) 3 := ⟨qs_J6_getChars_ba4f3, qc_J6_getChars_ba4f3, qn_J6, by decide +kernel, by decide +kernel, by decide +kernel⟩

theorem dJ6_getChars_ba4f3_0 : decode cJ6_getChars_ba4f3 0 = .ok (.iload_n 1, 1) := by decide +kernel
theorem dJ6_getChars_ba4f3_1 : decode cJ6_getChars_ba4f3 1 = .ok (.istore 5, 2) := by decide +kernel
theorem dJ6_getChars_ba4f3_3 : decode cJ6_getChars_ba4f3 3 = .ok (.iload_n 0, 1) := by decide +kernel
theorem dJ6_getChars_ba4f3_4 : decode cJ6_getChars_ba4f3 4 = .ok (.ifCond .ge 7, 3) := by decide +kernel
theorem dJ6_getChars_ba4f3_7 : decode cJ6_getChars_ba4f3 7 = .ok (.iconst 1, 1) := by decide +kernel
theorem dJ6_getChars_ba4f3_8 : decode cJ6_getChars_ba4f3 8 = .ok (.goto 4, 3) := by decide +kernel
theorem dJ6_getChars_ba4f3_11 : decode cJ6_getChars_ba4f3 11 = .ok (.iconst 0, 1) := by decide +kernel
theorem dJ6_getChars_ba4f3_12 : decode cJ6_getChars_ba4f3 12 = .ok (.istore 6, 2) := by decide +kernel
theorem dJ6_getChars_ba4f3_14 : decode cJ6_getChars_ba4f3 14 = .ok (.iload 6, 2) := by decide +kernel
theorem dJ6_getChars_ba4f3_16 : decode cJ6_getChars_ba4f3 16 = .ok (.ifCond .ne 6, 3) := by decide +kernel
theorem dJ6_getChars_ba4f3_19 : decode cJ6_getChars_ba4f3 19 = .ok (.iload_n 0, 1) := by decide +kernel
theorem dJ6_getChars_ba4f3_20 : decode cJ6_getChars_ba4f3 20 = .ok (.ineg, 1) := by decide +kernel
theorem dJ6_getChars_ba4f3_21 : decode cJ6_getChars_ba4f3 21 = .ok (.istore_n 0, 1) := by decide +kernel
theorem dJ6_getChars_ba4f3_22 : decode cJ6_getChars_ba4f3 22 = .ok (.iload_n 0, 1) := by decide +kernel
theorem dJ6_getChars_ba4f3_23 : decode cJ6_getChars_ba4f3 23 = .ok (.bipush (-100), 2) := by decide +kernel
theorem dJ6_getChars_ba4f3_25 : decode cJ6_getChars_ba4f3 25 = .ok (.if_icmp .gt 47, 3) := by decide +kernel
theorem dJ6_getChars_ba4f3_28 : decode cJ6_getChars_ba4f3 28 = .ok (.iload_n 0, 1) := by decide +kernel
theorem dJ6_getChars_ba4f3_29 : decode cJ6_getChars_ba4f3 29 = .ok (.bipush 100, 2) := by decide +kernel
theorem dJ6_getChars_ba4f3_31 : decode cJ6_getChars_ba4f3 31 = .ok (.idiv, 1) := by decide +kernel
theorem dJ6_getChars_ba4f3_32 : decode cJ6_getChars_ba4f3 32 = .ok (.istore_n 3, 1) := by decide +kernel
theorem dJ6_getChars_ba4f3_33 : decode cJ6_getChars_ba4f3 33 = .ok (.iload_n 3, 1) := by decide +kernel
theorem dJ6_getChars_ba4f3_34 : decode cJ6_getChars_ba4f3 34 = .ok (.bipush 100, 2) := by decide +kernel
theorem dJ6_getChars_ba4f3_36 : decode cJ6_getChars_ba4f3 36 = .ok (.imul, 1) := by decide +kernel
theorem dJ6_getChars_ba4f3_37 : decode cJ6_getChars_ba4f3 37 = .ok (.iload_n 0, 1) := by decide +kernel
theorem dJ6_getChars_ba4f3_38 : decode cJ6_getChars_ba4f3 38 = .ok (.isub, 1) := by decide +kernel
theorem dJ6_getChars_ba4f3_39 : decode cJ6_getChars_ba4f3 39 = .ok (.istore 4, 2) := by decide +kernel
theorem dJ6_getChars_ba4f3_41 : decode cJ6_getChars_ba4f3 41 = .ok (.iload_n 3, 1) := by decide +kernel
theorem dJ6_getChars_ba4f3_42 : decode cJ6_getChars_ba4f3 42 = .ok (.istore_n 0, 1) := by decide +kernel
theorem dJ6_getChars_ba4f3_43 : decode cJ6_getChars_ba4f3 43 = .ok (.aload_n 2, 1) := by decide +kernel
theorem dJ6_getChars_ba4f3_44 : decode cJ6_getChars_ba4f3 44 = .ok (.iinc 5 (-1), 3) := by decide +kernel
theorem dJ6_getChars_ba4f3_47 : decode cJ6_getChars_ba4f3 47 = .ok (.iload 5, 2) := by decide +kernel
theorem dJ6_getChars_ba4f3_49 : decode cJ6_getChars_ba4f3 49 = .ok (.getstatic 83, 3) := by decide +kernel
theorem dJ6_getChars_ba4f3_52 : decode cJ6_getChars_ba4f3 52 = .ok (.iload 4, 2) := by decide +kernel
theorem dJ6_getChars_ba4f3_54 : decode cJ6_getChars_ba4f3 54 = .ok (.baload, 1) := by decide +kernel
theorem dJ6_getChars_ba4f3_55 : decode cJ6_getChars_ba4f3 55 = .ok (.bastore, 1) := by decide +kernel
theorem dJ6_getChars_ba4f3_56 : decode cJ6_getChars_ba4f3 56 = .ok (.aload_n 2, 1) := by decide +kernel
theorem dJ6_getChars_ba4f3_57 : decode cJ6_getChars_ba4f3 57 = .ok (.iinc 5 (-1), 3) := by decide +kernel
theorem dJ6_getChars_ba4f3_60 : decode cJ6_getChars_ba4f3 60 = .ok (.iload 5, 2) := by decide +kernel
theorem dJ6_getChars_ba4f3_62 : decode cJ6_getChars_ba4f3 62 = .ok (.getstatic 87, 3) := by decide +kernel
theorem dJ6_getChars_ba4f3_65 : decode cJ6_getChars_ba4f3 65 = .ok (.iload 4, 2) := by decide +kernel
theorem dJ6_getChars_ba4f3_67 : decode cJ6_getChars_ba4f3 67 = .ok (.baload, 1) := by decide +kernel
theorem dJ6_getChars_ba4f3_68 : decode cJ6_getChars_ba4f3 68 = .ok (.bastore, 1) := by decide +kernel
theorem dJ6_getChars_ba4f3_69 : decode cJ6_getChars_ba4f3 69 = .ok (.goto (-47), 3) := by decide +kernel
theorem dJ6_getChars_ba4f3_72 : decode cJ6_getChars_ba4f3 72 = .ok (.aload_n 2, 1) := by decide +kernel
theorem dJ6_getChars_ba4f3_73 : decode cJ6_getChars_ba4f3 73 = .ok (.iinc 5 (-1), 3) := by decide +kernel
theorem dJ6_getChars_ba4f3_76 : decode cJ6_getChars_ba4f3 76 = .ok (.iload 5, 2) := by decide +kernel
theorem dJ6_getChars_ba4f3_78 : decode cJ6_getChars_ba4f3 78 = .ok (.getstatic 83, 3) := by decide +kernel
theorem dJ6_getChars_ba4f3_81 : decode cJ6_getChars_ba4f3 81 = .ok (.iload_n 0, 1) := by decide +kernel
theorem dJ6_getChars_ba4f3_82 : decode cJ6_getChars_ba4f3 82 = .ok (.ineg, 1) := by decide +kernel
theorem dJ6_getChars_ba4f3_83 : decode cJ6_getChars_ba4f3 83 = .ok (.baload, 1) := by decide +kernel
theorem dJ6_getChars_ba4f3_84 : decode cJ6_getChars_ba4f3 84 = .ok (.bastore, 1) := by decide +kernel
theorem dJ6_getChars_ba4f3_85 : decode cJ6_getChars_ba4f3 85 = .ok (.iload_n 0, 1) := by decide +kernel
theorem dJ6_getChars_ba4f3_86 : decode cJ6_getChars_ba4f3 86 = .ok (.bipush (-9), 2) := by decide +kernel
theorem dJ6_getChars_ba4f3_88 : decode cJ6_getChars_ba4f3 88 = .ok (.if_icmp .ge 16, 3) := by decide +kernel
theorem dJ6_getChars_ba4f3_91 : decode cJ6_getChars_ba4f3 91 = .ok (.aload_n 2, 1) := by decide +kernel
theorem dJ6_getChars_ba4f3_92 : decode cJ6_getChars_ba4f3 92 = .ok (.iinc 5 (-1), 3) := by decide +kernel
theorem dJ6_getChars_ba4f3_95 : decode cJ6_getChars_ba4f3 95 = .ok (.iload 5, 2) := by decide +kernel
theorem dJ6_getChars_ba4f3_97 : decode cJ6_getChars_ba4f3 97 = .ok (.getstatic 87, 3) := by decide +kernel
theorem dJ6_getChars_ba4f3_100 : decode cJ6_getChars_ba4f3 100 = .ok (.iload_n 0, 1) := by decide +kernel
theorem dJ6_getChars_ba4f3_101 : decode cJ6_getChars_ba4f3 101 = .ok (.ineg, 1) := by decide +kernel
theorem dJ6_getChars_ba4f3_102 : decode cJ6_getChars_ba4f3 102 = .ok (.baload, 1) := by decide +kernel
theorem dJ6_getChars_ba4f3_103 : decode cJ6_getChars_ba4f3 103 = .ok (.bastore, 1) := by decide +kernel
theorem dJ6_getChars_ba4f3_104 : decode cJ6_getChars_ba4f3 104 = .ok (.iload 6, 2) := by decide +kernel
theorem dJ6_getChars_ba4f3_106 : decode cJ6_getChars_ba4f3 106 = .ok (.ifCond .eq 12, 3) := by decide +kernel
theorem dJ6_getChars_ba4f3_109 : decode cJ6_getChars_ba4f3 109 = .ok (.aload_n 2, 1) := by decide +kernel
theorem dJ6_getChars_ba4f3_110 : decode cJ6_getChars_ba4f3 110 = .ok (.iinc 5 (-1), 3) := by decide +kernel
theorem dJ6_getChars_ba4f3_113 : decode cJ6_getChars_ba4f3 113 = .ok (.iload 5, 2) := by decide +kernel
theorem dJ6_getChars_ba4f3_115 : decode cJ6_getChars_ba4f3 115 = .ok (.bipush 45, 2) := by decide +kernel
theorem dJ6_getChars_ba4f3_117 : decode cJ6_getChars_ba4f3 117 = .ok (.bastore, 1) := by decide +kernel
theorem dJ6_getChars_ba4f3_118 : decode cJ6_getChars_ba4f3 118 = .ok (.iload 5, 2) := by decide +kernel
theorem dJ6_getChars_ba4f3_120 : decode cJ6_getChars_ba4f3 120 = .ok (.ireturn, 1) := by decide +kernel
set_option maxHeartbeats 4000000 in
set_option maxRecDepth 100000 in
theorem c_sb_chars0 (l : Launch) (hfl : l.stackTraces = false) (ev : LEv) (D : va_G) (g : Nat → ClassId) (kb pb vb mb : Nat) (fb : Nat → Int32) (h1 : kb < 10) (hp : 1 ≤ pb) (hm : pb ≤ mb) (hb : mb ≤ 34) : MO l yJ6_getChars_ba4f3 (Cond.code yJ6_getChars_ba4f3 cJ6_getChars_ba4f3 7 (some .int)) { frames := 0, cells := 0, slots := 0, locals := 0 } (KF ev) D g [.int (nI kb), .int (nI pb), .ref vb] [(vb, .inl (g 5, mb, .inl fb))] (fun _ : Unit => True) (fun _ => some (.int (nI (pb - dn kb)))) (fun _ => [(vb, .inl (g 5, mb, .inl (gC fb pb kb)))]) 0 0 := by
  refine z_o_start (by decide) (Nat.le_of_ble_eq_true rfl) ?_
  intro p e s m args below meth c Q A X hr hin hK hA hQ
  refine z_lv (lv' := [(0, .int (nI kb)), (1, .int (nI pb)), (2, .ref vb)]) rfl ?_
  refine z_iload_n X 1 dJ6_getChars_ba4f3_0 rfl rfl ?_
  refine z_istore X [(5, .int (nI pb)), (0, .int (nI kb)), (1, .int (nI pb)), (2, .ref vb)] dJ6_getChars_ba4f3_1 (by decide) rfl ?_
  refine z_iload_n X 1 dJ6_getChars_ba4f3_3 rfl rfl ?_
  refine z_if_ge (F1 := some ()) (F2 := some ()) (o := ()) X 11 dJ6_getChars_ba4f3_4 (by decide) (by unfold brn; split <;> rfl) (fun _ _ => ?_) (fun hh _ => absurd (nI_pos' (by omega)) hh)
  refine z_iconst X (0 : Int32) dJ6_getChars_ba4f3_11 (by decide) ?_
  refine z_istore X [(6, .int (0 : Int32)), (5, .int (nI pb)), (0, .int (nI kb)), (1, .int (nI pb)), (2, .ref vb)] dJ6_getChars_ba4f3_12 (by decide) rfl ?_
  refine z_iload X 0 dJ6_getChars_ba4f3_14 rfl ?_
  refine z_if_ne (F1 := some ()) (F2 := some ()) (o := ()) X 22 dJ6_getChars_ba4f3_16 (by decide) (by unfold brn; split <;> rfl) (fun _ _ => ?_) (fun hh _ => absurd rfl hh)
  refine z_iload_n X 2 dJ6_getChars_ba4f3_19 rfl rfl ?_
  refine z_ineg X dJ6_getChars_ba4f3_20 ?_
  refine z_istore_n X [(0, .int (-(nI kb))), (6, .int (0 : Int32)), (5, .int (nI pb)), (1, .int (nI pb)), (2, .ref vb)] dJ6_getChars_ba4f3_21 rfl (by decide) rfl ?_
  refine z_iload_n X 0 dJ6_getChars_ba4f3_22 rfl rfl ?_
  refine z_bipush X (-100 : Int32) dJ6_getChars_ba4f3_23 (by decide) ?_
  refine z_icmp_gt (F1 := some ()) (F2 := some ()) (o := ()) X 72 dJ6_getChars_ba4f3_25 (by decide) (by unfold brn; split <;> rfl) (fun _ _ => ?_) (fun hh _ => absurd (sz_gt100 kb (by omega)) hh)
  refine z_aload_n X 4 dJ6_getChars_ba4f3_72 rfl rfl ?_
  refine z_iinc X 2 [(5, .int ((nI pb) + (-1))), (0, .int (-(nI kb))), (6, .int (0 : Int32)), (1, .int (nI pb)), (2, .ref vb)] dJ6_getChars_ba4f3_73 rfl rfl (by decide) rfl ?_
  rw [show ((nI pb) + (-1)) = nI (pb - 1) from nI_m1 (by omega)]
  refine z_iload X 0 dJ6_getChars_ba4f3_76 rfl ?_
  refine z_gets X IW_S hK.2.2.2.2.1.2.1 qf_J6_J6_DigitOnes dJ6_getChars_ba4f3_78 ?_
  refine z_iload_n X 1 dJ6_getChars_ba4f3_81 rfl rfl ?_
  refine z_ineg X dJ6_getChars_ba4f3_82 ?_
  rw [show ((-(-(nI kb))) : Int32) = nI kb from Int32.neg_neg]
  refine z_tb (F := some ()) (o := ()) (v := .int (nI (48 + kb % 10))) X IW_S hK.2.2.2.2.1.2.2 (by unfold grd; rw [if_pos (inb_nI (by omega) (by omega))]) (by rw [nI_clamp (by omega)]; rfl) dJ6_getChars_ba4f3_83 (fun _ => ?_)
  refine z_bast (q0 := 0) (ws' := [(vb, .inl (g 5, mb, .inl (upd fb (pb - 1) (nI (48 + kb % 10)))))]) X dJ6_getChars_ba4f3_84 rfl (inb_nI (by omega) (by omega)) (by rw [nI_clamp (by omega), nar_nI (by omega)]; rfl) ?_
  refine z_iload_n X 1 dJ6_getChars_ba4f3_85 rfl rfl ?_
  refine z_bipush X (-9 : Int32) dJ6_getChars_ba4f3_86 (by decide) ?_
  refine z_icmp_ge (F1 := some ()) (F2 := some ()) (o := ()) X 104 dJ6_getChars_ba4f3_88 (by decide) (by unfold brn; split <;> rfl) (fun _ _ => ?_) (fun hh _ => absurd ((sz_ge9 kb (by omega)).mpr h1) hh)
  refine z_iload X 2 dJ6_getChars_ba4f3_104 rfl ?_
  refine z_if_eq (F1 := some ()) (F2 := some ()) (o := ()) X 118 dJ6_getChars_ba4f3_106 (by decide) (by unfold brn; split <;> rfl) (fun _ _ => ?_) (fun hh _ => absurd rfl hh)
  refine z_iload X 0 dJ6_getChars_ba4f3_118 rfl ?_
  have eg : gC fb pb kb = upd fb (pb - 1) (nI (48 + kb % 10)) := by unfold gC; rw [if_pos h1]; rw [show kb % 10 = kb by omega]
  have ed : pb - dn kb = pb - 1 := by unfold dn; rw [if_pos h1]
  rw [← eg, ← ed]
  exact z_oiret X hQ (Nat.le_of_ble_eq_true rfl) (Nat.le_of_ble_eq_true rfl) hr dJ6_getChars_ba4f3_120 () trivial rfl (List.Perm.refl _)

set_option maxHeartbeats 4000000 in
set_option maxRecDepth 100000 in
theorem c_sb_chars1 (l : Launch) (hfl : l.stackTraces = false) (ev : LEv) (D : va_G) (g : Nat → ClassId) (kb pb vb mb : Nat) (fb : Nat → Int32) (h1 : ¬ kb < 10) (h2 : kb < 100) (hp : 2 ≤ pb) (hm : pb ≤ mb) (hb : mb ≤ 34) : MO l yJ6_getChars_ba4f3 (Cond.code yJ6_getChars_ba4f3 cJ6_getChars_ba4f3 7 (some .int)) { frames := 0, cells := 0, slots := 0, locals := 0 } (KF ev) D g [.int (nI kb), .int (nI pb), .ref vb] [(vb, .inl (g 5, mb, .inl fb))] (fun _ : Unit => True) (fun _ => some (.int (nI (pb - dn kb)))) (fun _ => [(vb, .inl (g 5, mb, .inl (gC fb pb kb)))]) 0 0 := by
  refine z_o_start (by decide) (Nat.le_of_ble_eq_true rfl) ?_
  intro p e s m args below meth c Q A X hr hin hK hA hQ
  refine z_lv (lv' := [(0, .int (nI kb)), (1, .int (nI pb)), (2, .ref vb)]) rfl ?_
  refine z_iload_n X 1 dJ6_getChars_ba4f3_0 rfl rfl ?_
  refine z_istore X [(5, .int (nI pb)), (0, .int (nI kb)), (1, .int (nI pb)), (2, .ref vb)] dJ6_getChars_ba4f3_1 (by decide) rfl ?_
  refine z_iload_n X 1 dJ6_getChars_ba4f3_3 rfl rfl ?_
  refine z_if_ge (F1 := some ()) (F2 := some ()) (o := ()) X 11 dJ6_getChars_ba4f3_4 (by decide) (by unfold brn; split <;> rfl) (fun _ _ => ?_) (fun hh _ => absurd (nI_pos' (by omega)) hh)
  refine z_iconst X (0 : Int32) dJ6_getChars_ba4f3_11 (by decide) ?_
  refine z_istore X [(6, .int (0 : Int32)), (5, .int (nI pb)), (0, .int (nI kb)), (1, .int (nI pb)), (2, .ref vb)] dJ6_getChars_ba4f3_12 (by decide) rfl ?_
  refine z_iload X 0 dJ6_getChars_ba4f3_14 rfl ?_
  refine z_if_ne (F1 := some ()) (F2 := some ()) (o := ()) X 22 dJ6_getChars_ba4f3_16 (by decide) (by unfold brn; split <;> rfl) (fun _ _ => ?_) (fun hh _ => absurd rfl hh)
  refine z_iload_n X 2 dJ6_getChars_ba4f3_19 rfl rfl ?_
  refine z_ineg X dJ6_getChars_ba4f3_20 ?_
  refine z_istore_n X [(0, .int (-(nI kb))), (6, .int (0 : Int32)), (5, .int (nI pb)), (1, .int (nI pb)), (2, .ref vb)] dJ6_getChars_ba4f3_21 rfl (by decide) rfl ?_
  refine z_iload_n X 0 dJ6_getChars_ba4f3_22 rfl rfl ?_
  refine z_bipush X (-100 : Int32) dJ6_getChars_ba4f3_23 (by decide) ?_
  refine z_icmp_gt (F1 := some ()) (F2 := some ()) (o := ()) X 72 dJ6_getChars_ba4f3_25 (by decide) (by unfold brn; split <;> rfl) (fun _ _ => ?_) (fun hh _ => absurd (sz_gt100 kb (by omega)) hh)
  refine z_aload_n X 4 dJ6_getChars_ba4f3_72 rfl rfl ?_
  refine z_iinc X 2 [(5, .int ((nI pb) + (-1))), (0, .int (-(nI kb))), (6, .int (0 : Int32)), (1, .int (nI pb)), (2, .ref vb)] dJ6_getChars_ba4f3_73 rfl rfl (by decide) rfl ?_
  rw [show ((nI pb) + (-1)) = nI (pb - 1) from nI_m1 (by omega)]
  refine z_iload X 0 dJ6_getChars_ba4f3_76 rfl ?_
  refine z_gets X IW_S hK.2.2.2.2.1.2.1 qf_J6_J6_DigitOnes dJ6_getChars_ba4f3_78 ?_
  refine z_iload_n X 1 dJ6_getChars_ba4f3_81 rfl rfl ?_
  refine z_ineg X dJ6_getChars_ba4f3_82 ?_
  rw [show ((-(-(nI kb))) : Int32) = nI kb from Int32.neg_neg]
  refine z_tb (F := some ()) (o := ()) (v := .int (nI (48 + kb % 10))) X IW_S hK.2.2.2.2.1.2.2 (by unfold grd; rw [if_pos (inb_nI (by omega) (by omega))]) (by rw [nI_clamp (by omega)]; rfl) dJ6_getChars_ba4f3_83 (fun _ => ?_)
  refine z_bast (q0 := 0) (ws' := [(vb, .inl (g 5, mb, .inl (upd fb (pb - 1) (nI (48 + kb % 10)))))]) X dJ6_getChars_ba4f3_84 rfl (inb_nI (by omega) (by omega)) (by rw [nI_clamp (by omega), nar_nI (by omega)]; rfl) ?_
  refine z_iload_n X 1 dJ6_getChars_ba4f3_85 rfl rfl ?_
  refine z_bipush X (-9 : Int32) dJ6_getChars_ba4f3_86 (by decide) ?_
  refine z_icmp_ge (F1 := some ()) (F2 := some ()) (o := ()) X 104 dJ6_getChars_ba4f3_88 (by decide) (by unfold brn; split <;> rfl) (fun hh _ => absurd hh (fun z9 => h1 ((sz_ge9 kb h2).mp z9))) (fun _ _ => ?_)
  refine z_aload_n X 4 dJ6_getChars_ba4f3_91 rfl rfl ?_
  refine z_iinc X 0 [(5, .int ((nI (pb - 1)) + (-1))), (0, .int (-(nI kb))), (6, .int (0 : Int32)), (1, .int (nI pb)), (2, .ref vb)] dJ6_getChars_ba4f3_92 rfl rfl (by decide) rfl ?_
  rw [show ((nI (pb - 1)) + (-1)) = nI (pb - 2) from nI_m1 (by omega)]
  refine z_iload X 0 dJ6_getChars_ba4f3_95 rfl ?_
  refine z_gets X IW_S hK.2.2.2.2.1.1.1 qf_J6_J6_DigitTens dJ6_getChars_ba4f3_97 ?_
  refine z_iload_n X 1 dJ6_getChars_ba4f3_100 rfl rfl ?_
  refine z_ineg X dJ6_getChars_ba4f3_101 ?_
  rw [show ((-(-(nI kb))) : Int32) = nI kb from Int32.neg_neg]
  refine z_tb (F := some ()) (o := ()) (v := .int (nI (48 + kb / 10))) X IW_S hK.2.2.2.2.1.1.2 (by unfold grd; rw [if_pos (inb_nI (by omega) (by omega))]) (by rw [nI_clamp (by omega)]; rfl) dJ6_getChars_ba4f3_102 (fun _ => ?_)
  refine z_bast (q0 := 0) (ws' := [(vb, .inl (g 5, mb, .inl (upd (upd fb (pb - 1) (nI (48 + kb % 10))) (pb - 2) (nI (48 + kb / 10)))))]) X dJ6_getChars_ba4f3_103 rfl (inb_nI (by omega) (by omega)) (by rw [nI_clamp (by omega), nar_nI (by omega)]; rfl) ?_
  refine z_iload X 2 dJ6_getChars_ba4f3_104 rfl ?_
  refine z_if_eq (F1 := some ()) (F2 := some ()) (o := ()) X 118 dJ6_getChars_ba4f3_106 (by decide) (by unfold brn; split <;> rfl) (fun _ _ => ?_) (fun hh _ => absurd rfl hh)
  refine z_iload X 0 dJ6_getChars_ba4f3_118 rfl ?_
  have eg : gC fb pb kb = upd (upd fb (pb - 1) (nI (48 + kb % 10))) (pb - 2) (nI (48 + kb / 10)) := by unfold gC; rw [if_neg h1]
  have ed : pb - dn kb = pb - 2 := by unfold dn; rw [if_neg h1]
  rw [← eg, ← ed]
  exact z_oiret X hQ (Nat.le_of_ble_eq_true rfl) (Nat.le_of_ble_eq_true rfl) hr dJ6_getChars_ba4f3_120 () trivial rfl (List.Perm.refl _)

theorem c_sb_chars (l : Launch) (hfl : l.stackTraces = false) (ev : LEv) (D : va_G) (g : Nat → ClassId) (kb pb vb mb : Nat) (fb : Nat → Int32) (hk : kb < 100) (hp : dn kb ≤ pb) (hm : pb ≤ mb) (hb : mb ≤ 34) : MO l yJ6_getChars_ba4f3 (Cond.code yJ6_getChars_ba4f3 cJ6_getChars_ba4f3 7 (some .int)) { frames := 0, cells := 0, slots := 0, locals := 0 } (KF ev) D g [.int (nI kb), .int (nI pb), .ref vb] [(vb, .inl (g 5, mb, .inl fb))] (fun _ : Unit => True) (fun _ => some (.int (nI (pb - dn kb)))) (fun _ => [(vb, .inl (g 5, mb, .inl (gC fb pb kb)))]) 0 0 := by
  by_cases h1 : kb < 10
  · exact c_sb_chars0 l hfl ev D g kb pb vb mb fb h1 (by have := dn_in kb; omega) hm hb
  · exact c_sb_chars1 l hfl ev D g kb pb vb mb fb h1 hk (by unfold dn at hp; rw [if_neg h1] at hp; exact hp) hm hb

theorem dJ5_append_c97b9_0 : decode cJ5_append_c97b9 0 = .ok (.aload_n 0, 1) := by decide +kernel
theorem dJ5_append_c97b9_1 : decode cJ5_append_c97b9 1 = .ok (.getfield 79, 3) := by decide +kernel
theorem dJ5_append_c97b9_4 : decode cJ5_append_c97b9 4 = .ok (.istore_n 2, 1) := by decide +kernel
theorem dJ5_append_c97b9_5 : decode cJ5_append_c97b9 5 = .ok (.iload_n 2, 1) := by decide +kernel
theorem dJ5_append_c97b9_6 : decode cJ5_append_c97b9 6 = .ok (.iload_n 1, 1) := by decide +kernel
theorem dJ5_append_c97b9_7 : decode cJ5_append_c97b9 7 = .ok (.invokestatic 245, 3) := by decide +kernel
theorem dJ5_append_c97b9_10 : decode cJ5_append_c97b9 10 = .ok (.iadd, 1) := by decide +kernel
theorem dJ5_append_c97b9_11 : decode cJ5_append_c97b9 11 = .ok (.istore_n 3, 1) := by decide +kernel
theorem dJ5_append_c97b9_12 : decode cJ5_append_c97b9 12 = .ok (.aload_n 0, 1) := by decide +kernel
theorem dJ5_append_c97b9_13 : decode cJ5_append_c97b9 13 = .ok (.iload_n 3, 1) := by decide +kernel
theorem dJ5_append_c97b9_14 : decode cJ5_append_c97b9 14 = .ok (.invokevirtual 100, 3) := by decide +kernel
theorem dJ5_append_c97b9_17 : decode cJ5_append_c97b9 17 = .ok (.aload_n 0, 1) := by decide +kernel
theorem dJ5_append_c97b9_18 : decode cJ5_append_c97b9 18 = .ok (.invokevirtual 83, 3) := by decide +kernel
theorem dJ5_append_c97b9_21 : decode cJ5_append_c97b9 21 = .ok (.ifCond .eq 16, 3) := by decide +kernel
theorem dJ5_append_c97b9_24 : decode cJ5_append_c97b9 24 = .ok (.iload_n 1, 1) := by decide +kernel
theorem dJ5_append_c97b9_25 : decode cJ5_append_c97b9 25 = .ok (.iload_n 3, 1) := by decide +kernel
theorem dJ5_append_c97b9_26 : decode cJ5_append_c97b9 26 = .ok (.aload_n 0, 1) := by decide +kernel
theorem dJ5_append_c97b9_27 : decode cJ5_append_c97b9 27 = .ok (.getfield 15, 3) := by decide +kernel
theorem dJ5_append_c97b9_30 : decode cJ5_append_c97b9 30 = .ok (.invokestatic 248, 3) := by decide +kernel
theorem dJ5_append_c97b9_33 : decode cJ5_append_c97b9 33 = .ok (.pop, 1) := by decide +kernel
theorem dJ5_append_c97b9_34 : decode cJ5_append_c97b9 34 = .ok (.goto 14, 3) := by decide +kernel
theorem dJ5_append_c97b9_37 : decode cJ5_append_c97b9 37 = .ok (.iload_n 1, 1) := by decide +kernel
theorem dJ5_append_c97b9_38 : decode cJ5_append_c97b9 38 = .ok (.iload_n 2, 1) := by decide +kernel
theorem dJ5_append_c97b9_39 : decode cJ5_append_c97b9 39 = .ok (.iload_n 3, 1) := by decide +kernel
theorem dJ5_append_c97b9_40 : decode cJ5_append_c97b9 40 = .ok (.aload_n 0, 1) := by decide +kernel
theorem dJ5_append_c97b9_41 : decode cJ5_append_c97b9 41 = .ok (.getfield 15, 3) := by decide +kernel
theorem dJ5_append_c97b9_44 : decode cJ5_append_c97b9 44 = .ok (.invokestatic 251, 3) := by decide +kernel
theorem dJ5_append_c97b9_47 : decode cJ5_append_c97b9 47 = .ok (.pop, 1) := by decide +kernel
theorem dJ5_append_c97b9_48 : decode cJ5_append_c97b9 48 = .ok (.aload_n 0, 1) := by decide +kernel
theorem dJ5_append_c97b9_49 : decode cJ5_append_c97b9 49 = .ok (.iload_n 3, 1) := by decide +kernel
theorem dJ5_append_c97b9_50 : decode cJ5_append_c97b9 50 = .ok (.putfield 79, 3) := by decide +kernel
theorem dJ5_append_c97b9_53 : decode cJ5_append_c97b9 53 = .ok (.aload_n 0, 1) := by decide +kernel
theorem dJ5_append_c97b9_54 : decode cJ5_append_c97b9 54 = .ok (.areturn, 1) := by decide +kernel
set_option maxHeartbeats 4000000 in
set_option maxRecDepth 100000 in
theorem c_sb_appI5 (l : Launch) (hfl : l.stackTraces = false) (ev : LEv) (D : va_G) (g : Nat → ClassId) (qb vb mb nb kb : Nat) (fb : Nat → Int32) (tl : List Int32) (hok : SBok nb tl (vb, mb, fb)) (hk : kb < 100) (hn : nb + 2 ≤ 34) : MO l yJ5_append_c97b9 (Cond.code yJ5_append_c97b9 cJ5_append_c97b9 4 (some (.object "java/lang/AbstractStringBuilder"))) { frames := 4, cells := 1, slots := 34, locals := 110 } (KF ev) D g [.ref qb, .int (nI kb)] [(qb, .inr (12, [.ref vb, .int 0, .int 0, .int (nI nb)])), (vb, .inl (g 5, mb, .inl fb))] (fun a : SBt => SBok (nb + dn kb) (tl ++ dgl kb) a) (fun _ => some (.ref qb)) (fun a => SBW g qb (nb + dn kb) a) 1 34 := by
  have hd := dn_in kb
  refine z_o_start (by decide) (Nat.le_of_ble_eq_true rfl) ?_
  intro p e s m args below meth c Q A X hr hin hK hA hQ
  refine z_lv (lv' := [(0, .ref qb), (1, .int (nI kb))]) rfl ?_
  refine z_aload_n X 0 dJ5_append_c97b9_0 rfl rfl ?_
  refine z_get (q0 := 0) (k := 3) (ci := 12) X IW_P iw_J4 rfl qf_J5_J5_count (by decide) dJ5_append_c97b9_1 rfl rfl ?_
  refine z_istore_n X [(2, .int (nI nb)), (0, .ref qb), (1, .int (nI kb))] dJ5_append_c97b9_4 rfl (by decide) rfl ?_
  refine z_iload_n X 0 dJ5_append_c97b9_5 rfl rfl ?_
  refine z_iload_n X 2 dJ5_append_c97b9_6 rfl rfl ?_
  refine z_oS (rest := [.int (nI nb)]) (wr := [(qb, .inr (12, [.ref vb, .int 0, .int 0, .int (nI nb)])), (vb, .inl (g 5, mb, .inl fb))]) X (KF_ok ev) (kc_of (KF_ok ev) (fun _ _ _ q => q) hK hA (pm_bkc (wr := [(qb, .inr (12, [.ref vb, .int 0, .int 0, .int (nI nb)])), (vb, .inl (g 5, mb, .inl fb))]) (List.Perm.refl _))) hA k_J6_stringSize_0f7a4 (c_sb_size l hfl ev D g kb hk) ql_J5_J6_stringSize_0f7a4 dJ5_append_c97b9_7 (List.Perm.refl _) rfl rfl ⟨Nat.le_of_ble_eq_true rfl, Nat.le_of_ble_eq_true rfl, rfl, rfl, Nat.le_of_ble_eq_true rfl, Nat.le_of_ble_eq_true rfl⟩ (Nat.le_of_ble_eq_true rfl) (fun a ha => ?_)
  refine z_perm (ws' := [(qb, .inr (12, [.ref vb, .int 0, .int 0, .int (nI nb)])), (vb, .inl (g 5, mb, .inl fb))]) (List.Perm.refl _) ?_
  refine z_iadd X dJ5_append_c97b9_10 ?_
  rw [show (((nI nb) + (nI (dn kb))) : Int32) = nI (nb + dn kb) from nI_add _ _]
  refine z_istore_n X [(3, .int (nI (nb + dn kb))), (2, .int (nI nb)), (0, .ref qb), (1, .int (nI kb))] dJ5_append_c97b9_11 rfl (by decide) rfl ?_
  refine z_aload_n X 2 dJ5_append_c97b9_12 rfl rfl ?_
  refine z_iload_n X 0 dJ5_append_c97b9_13 rfl rfl ?_
  refine z_oU (n := 1) (rest := []) (wr := []) (x := yJ5_ensureCapacityInternal_d00df) (owner := "java/lang/AbstractStringBuilder") (C := RJ4) X (KF_ok ev) (kc_of (KF_ok ev) (fun _ _ _ q => q) hK hA (pm_bkc (wr := []) (perm_of (n := 2) (E := [(qb, .inr (12, [.ref vb, .int 0, .int 0, .int (nI nb)])), (vb, .inl (g 5, mb, .inl fb))]) (wc := [(qb, .inr (12, [.ref vb, .int 0, .int 0, .int (nI nb)])), (vb, .inl (g 5, mb, .inl fb))]) (wr := []) [0, 1] [] rfl rfl rfl (by decide +kernel)))) hA (c_sb_ens l hfl ev D g qb vb mb nb (nb + dn kb) fb tl hok (by omega)) qc_J5_ensureCapacityInternal_d00df qn_J5 ⟨by decide, by decide⟩ (by decide +kernel) ql_J5_J5_ensureCapacityInternal_d00df qx_same1 (va_Decl.of (X.1.2.2.2.2 _ qi_J5_ensureCapacityInternal_d00df) (X.1.2.2.2.2 _ qc_J5_ensureCapacityInternal_d00df)) (sel_sb (ev := ev) X hK (List.mem_of_getElem? (i := 0) rfl) ⟨by decide, by decide⟩ qi_J5_ensureCapacityInternal_d00df qx_same1) qi_J5_ensureCapacityInternal_d00df dJ5_append_c97b9_14 (perm_of (n := 2) (E := [(qb, .inr (12, [.ref vb, .int 0, .int 0, .int (nI nb)])), (vb, .inl (g 5, mb, .inl fb))]) (wc := [(qb, .inr (12, [.ref vb, .int 0, .int 0, .int (nI nb)])), (vb, .inl (g 5, mb, .inl fb))]) (wr := []) [0, 1] [] rfl rfl rfl (by decide +kernel)) (rc_of (q0 := 0) (ci := 12) X rfl rfl) rfl rfl ⟨Nat.le_of_ble_eq_true rfl, Nat.le_of_ble_eq_true rfl, rfl, rfl, Nat.le_of_ble_eq_true rfl, Nat.le_of_ble_eq_true rfl⟩ (Nat.le_of_ble_eq_true rfl) (fun a ha => ?_)
  obtain ⟨v2, m2, f2⟩ := a
  obtain ⟨ok2, le2⟩ := ha
  have le2 : nb + dn kb ≤ m2 := le2
  have m34 : m2 ≤ 34 := by have : m2 = 16 ∨ m2 = 34 := ok2.1; omega
  refine z_perm (ws' := [(qb, .inr (12, [.ref v2, .int 0, .int 0, .int (nI nb)])), (v2, .inl (g 5, m2, .inl f2))]) (List.Perm.refl _) ?_
  refine z_aload_n X 2 dJ5_append_c97b9_17 rfl rfl ?_
  refine z_oU (n := 0) (rest := []) (wr := []) (x := yJ5_isLatin1_aae02) (owner := "java/lang/AbstractStringBuilder") (C := RJ4) X (KF_ok ev) (kc_of (KF_ok ev) (fun _ _ _ q => q) hK hA (pm_bkc (wr := []) (perm_of (n := 2) (E := [(qb, .inr (12, [.ref v2, .int 0, .int 0, .int (nI nb)])), (v2, .inl (g 5, m2, .inl f2))]) (wc := [(qb, .inr (12, [.ref v2, .int 0, .int 0, .int (nI nb)])), (v2, .inl (g 5, m2, .inl f2))]) (wr := []) [0, 1] [] rfl rfl rfl (by decide +kernel)))) hA (c_sb_isL l hfl ev D g qb v2 m2 nb f2) qc_J5_isLatin1_aae02 qn_J5 ⟨by decide, by decide⟩ (by decide +kernel) ql_J5_J5_isLatin1_aae02 qx_sameI (va_Decl.of (X.1.2.2.2.2 _ qi_J5_isLatin1_aae02) (X.1.2.2.2.2 _ qc_J5_isLatin1_aae02)) (X.1.2.2.2.2 _ qx_selI) qi_J5_isLatin1_aae02 dJ5_append_c97b9_18 (perm_of (n := 2) (E := [(qb, .inr (12, [.ref v2, .int 0, .int 0, .int (nI nb)])), (v2, .inl (g 5, m2, .inl f2))]) (wc := [(qb, .inr (12, [.ref v2, .int 0, .int 0, .int (nI nb)])), (v2, .inl (g 5, m2, .inl f2))]) (wr := []) [0, 1] [] rfl rfl rfl (by decide +kernel)) (rc_of (q0 := 0) (ci := 12) X rfl rfl) rfl rfl ⟨Nat.le_of_ble_eq_true rfl, Nat.le_of_ble_eq_true rfl, rfl, rfl, Nat.le_of_ble_eq_true rfl, Nat.le_of_ble_eq_true rfl⟩ (Nat.le_of_ble_eq_true rfl) (fun a ha => ?_)
  refine z_perm (ws' := [(qb, .inr (12, [.ref v2, .int 0, .int 0, .int (nI nb)])), (v2, .inl (g 5, m2, .inl f2))]) (List.Perm.refl _) ?_
  refine z_if_eq (F1 := some ()) (F2 := some ()) (o := ()) X 37 dJ5_append_c97b9_21 (by decide) (by unfold brn; split <;> rfl) (fun hh _ => absurd hh (by decide)) (fun _ _ => ?_)
  refine z_iload_n X 3 dJ5_append_c97b9_24 rfl rfl ?_
  refine z_iload_n X 0 dJ5_append_c97b9_25 rfl rfl ?_
  refine z_aload_n X 2 dJ5_append_c97b9_26 rfl rfl ?_
  refine z_get (q0 := 0) (k := 0) (ci := 12) X IW_P iw_J4 rfl qf_J5_J5_value (by decide) dJ5_append_c97b9_27 rfl rfl ?_
  refine z_oS (rest := []) (wr := [(qb, .inr (12, [.ref v2, .int 0, .int 0, .int (nI nb)]))]) X (KF_ok ev) (kc_of (KF_ok ev) (fun _ _ _ q => q) hK hA (pm_bkc (wr := [(qb, .inr (12, [.ref v2, .int 0, .int 0, .int (nI nb)]))]) (perm_of (n := 2) (E := [(qb, .inr (12, [.ref v2, .int 0, .int 0, .int (nI nb)])), (v2, .inl (g 5, m2, .inl f2))]) (wc := [(v2, .inl (g 5, m2, .inl f2))]) (wr := [(qb, .inr (12, [.ref v2, .int 0, .int 0, .int (nI nb)]))]) [1] [0] rfl rfl rfl (by decide +kernel)))) hA k_J6_getChars_ba4f3 (c_sb_chars l hfl ev D g kb (nb + dn kb) v2 m2 f2 hk (by omega) le2 m34) ql_J5_J6_getChars_ba4f3 dJ5_append_c97b9_30 (perm_of (n := 2) (E := [(qb, .inr (12, [.ref v2, .int 0, .int 0, .int (nI nb)])), (v2, .inl (g 5, m2, .inl f2))]) (wc := [(v2, .inl (g 5, m2, .inl f2))]) (wr := [(qb, .inr (12, [.ref v2, .int 0, .int 0, .int (nI nb)]))]) [1] [0] rfl rfl rfl (by decide +kernel)) rfl rfl ⟨Nat.le_of_ble_eq_true rfl, Nat.le_of_ble_eq_true rfl, rfl, rfl, Nat.le_of_ble_eq_true rfl, Nat.le_of_ble_eq_true rfl⟩ (Nat.le_of_ble_eq_true rfl) (fun a ha => ?_)
  refine z_perm (ws' := [(qb, .inr (12, [.ref v2, .int 0, .int 0, .int (nI nb)])), (v2, .inl (g 5, m2, .inl (gC f2 (nb + dn kb) kb)))]) (List.Perm.refl _) ?_
  refine z_pop X dJ5_append_c97b9_33 rfl ?_
  refine z_goto X 48 dJ5_append_c97b9_34 (by decide) ?_
  refine z_aload_n X 2 dJ5_append_c97b9_48 rfl rfl ?_
  refine z_iload_n X 0 dJ5_append_c97b9_49 rfl rfl ?_
  refine z_put (q0 := 0) (k := 3) (ci := 12) (ws' := [(qb, .inr (12, [.ref v2, .int 0, .int 0, .int (nI (nb + dn kb))])), (v2, .inl (g 5, m2, .inl (gC f2 (nb + dn kb) kb)))]) X iw_J4 tyJ4_ok nmJ4 rfl qf_J5_J5_count (by decide) rfl rfl dJ5_append_c97b9_50 rfl rfl rfl (Nat.le_of_ble_eq_true rfl) rfl ?_
  refine z_aload_n X 2 dJ5_append_c97b9_53 rfl rfl ?_
  exact z_oaret X hQ (Nat.le_of_ble_eq_true rfl) (Nat.le_of_ble_eq_true rfl) hr (Or.inl ⟨_, rfl⟩) dJ5_append_c97b9_54 (v2, m2, gC f2 (nb + dn kb) kb) (ok2.int hk le2) rfl (List.Perm.refl _)

theorem k_J4_append_bf812 : cardV yJ4_append_bf812 (Cond.code yJ4_append_bf812 cJ4_append_bf812 2 (some (.object "java/lang/StringBuilder"))) 1 := ⟨⟨qi_J4_append_bf812, qv_J4_append_bf812⟩, qc_J4_append_bf812, qn_J4, by decide +kernel, by decide +kernel, by decide +kernel⟩

theorem dJ4_append_bf812_0 : decode cJ4_append_bf812 0 = .ok (.aload_n 0, 1) := by decide +kernel
theorem dJ4_append_bf812_1 : decode cJ4_append_bf812 1 = .ok (.iload_n 1, 1) := by decide +kernel
theorem dJ4_append_bf812_2 : decode cJ4_append_bf812 2 = .ok (.invokespecial 53, 3) := by decide +kernel
theorem dJ4_append_bf812_5 : decode cJ4_append_bf812 5 = .ok (.pop, 1) := by decide +kernel
theorem dJ4_append_bf812_6 : decode cJ4_append_bf812 6 = .ok (.aload_n 0, 1) := by decide +kernel
theorem dJ4_append_bf812_7 : decode cJ4_append_bf812 7 = .ok (.areturn, 1) := by decide +kernel
set_option maxHeartbeats 4000000 in
set_option maxRecDepth 100000 in
theorem c_sb_appI (l : Launch) (hfl : l.stackTraces = false) (ev : LEv) (D : va_G) (g : Nat → ClassId) (qb vb mb nb kb : Nat) (fb : Nat → Int32) (tl : List Int32) (hok : SBok nb tl (vb, mb, fb)) (hk : kb < 100) (hn : nb + 2 ≤ 34) : MO l yJ4_append_bf812 (Cond.code yJ4_append_bf812 cJ4_append_bf812 2 (some (.object "java/lang/StringBuilder"))) { frames := 5, cells := 1, slots := 34, locals := 133 } (KF ev) D g [.ref qb, .int (nI kb)] [(qb, .inr (12, [.ref vb, .int 0, .int 0, .int (nI nb)])), (vb, .inl (g 5, mb, .inl fb))] (fun a : SBt => SBok (nb + dn kb) (tl ++ dgl kb) a) (fun _ => some (.ref qb)) (fun a => SBW g qb (nb + dn kb) a) 1 34 := by
  refine z_o_start (by decide) (Nat.le_of_ble_eq_true rfl) ?_
  intro p e s m args below meth c Q A X hr hin hK hA hQ
  refine z_lv (lv' := [(0, .ref qb), (1, .int (nI kb))]) rfl ?_
  refine z_aload_n X 0 dJ4_append_bf812_0 rfl rfl ?_
  refine z_iload_n X 1 dJ4_append_bf812_1 rfl rfl ?_
  refine z_oSU (n := 1) (rest := []) (wr := []) (C := RJ4) (cC := D.1 12) X (X.2.2.1.1 12 _ rfl).2 (KF_ok ev) (kc_of (KF_ok ev) (fun _ _ _ q => q) hK hA (pm_bkc (wr := []) (perm_of (n := 2) (E := [(qb, .inr (12, [.ref vb, .int 0, .int 0, .int (nI nb)])), (vb, .inl (g 5, mb, .inl fb))]) (wc := [(qb, .inr (12, [.ref vb, .int 0, .int 0, .int (nI nb)])), (vb, .inl (g 5, mb, .inl fb))]) (wr := []) [0, 1] [] rfl rfl rfl (by decide +kernel)))) hA (c_sb_appI5 l hfl ev D g qb vb mb nb kb fb tl hok hk hn) qc_J5_append_c97b9 qn_J5 (by decide) (by decide +kernel) ql_J4_J5_append_c97b9 qx_same0 qx_sup qi_J5_append_c97b9 dJ4_append_bf812_2 (perm_of (n := 2) (E := [(qb, .inr (12, [.ref vb, .int 0, .int 0, .int (nI nb)])), (vb, .inl (g 5, mb, .inl fb))]) (wc := [(qb, .inr (12, [.ref vb, .int 0, .int 0, .int (nI nb)])), (vb, .inl (g 5, mb, .inl fb))]) (wr := []) [0, 1] [] rfl rfl rfl (by decide +kernel)) (rc_of (q0 := 0) (ci := 12) X rfl rfl) rfl rfl ⟨Nat.le_of_ble_eq_true rfl, Nat.le_of_ble_eq_true rfl, rfl, rfl, Nat.le_of_ble_eq_true rfl, Nat.le_of_ble_eq_true rfl⟩ (Nat.le_of_ble_eq_true rfl) (fun a ha => ?_)
  obtain ⟨v2, m2, f2⟩ := a
  refine z_perm (ws' := [(qb, .inr (12, [.ref v2, .int 0, .int 0, .int (nI (nb + dn kb))])), (v2, .inl (g 5, m2, .inl f2))]) (List.Perm.refl _) ?_
  refine z_pop X dJ4_append_bf812_5 rfl ?_
  refine z_aload_n X 0 dJ4_append_bf812_6 rfl rfl ?_
  exact z_oaret X hQ (Nat.le_of_ble_eq_true rfl) (Nat.le_of_ble_eq_true rfl) hr (Or.inl ⟨_, rfl⟩) dJ4_append_bf812_7 (v2, m2, f2) ha rfl (List.Perm.refl _)
