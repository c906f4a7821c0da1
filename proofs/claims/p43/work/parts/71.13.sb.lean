theorem dJ0_init_db425_0 : decode cJ0_init_db425 0 = .ok (.aload_n 0, 1) := by decide +kernel
theorem dJ0_init_db425_1 : decode cJ0_init_db425 1 = .ok (.invokespecial 1, 3) := by decide +kernel
theorem dJ0_init_db425_4 : decode cJ0_init_db425 4 = .ok (.aload_n 1, 1) := by decide +kernel
theorem dJ0_init_db425_5 : decode cJ0_init_db425 5 = .ok (.invokevirtual 552, 3) := by decide +kernel
theorem dJ0_init_db425_8 : decode cJ0_init_db425 8 = .ok (.astore_n 3, 1) := by decide +kernel
theorem dJ0_init_db425_9 : decode cJ0_init_db425 9 = .ok (.aload_n 1, 1) := by decide +kernel
theorem dJ0_init_db425_10 : decode cJ0_init_db425 10 = .ok (.invokevirtual 549, 3) := by decide +kernel
theorem dJ0_init_db425_13 : decode cJ0_init_db425 13 = .ok (.istore 4, 2) := by decide +kernel
theorem dJ0_init_db425_15 : decode cJ0_init_db425 15 = .ok (.aload_n 1, 1) := by decide +kernel
theorem dJ0_init_db425_16 : decode cJ0_init_db425 16 = .ok (.invokevirtual 1047, 3) := by decide +kernel
theorem dJ0_init_db425_19 : decode cJ0_init_db425 19 = .ok (.ifCond .eq 22, 3) := by decide +kernel
theorem dJ0_init_db425_22 : decode cJ0_init_db425 22 = .ok (.aload_n 0, 1) := by decide +kernel
theorem dJ0_init_db425_23 : decode cJ0_init_db425 23 = .ok (.iconst 0, 1) := by decide +kernel
theorem dJ0_init_db425_24 : decode cJ0_init_db425 24 = .ok (.putfield 15, 3) := by decide +kernel
theorem dJ0_init_db425_27 : decode cJ0_init_db425 27 = .ok (.aload_n 0, 1) := by decide +kernel
theorem dJ0_init_db425_28 : decode cJ0_init_db425 28 = .ok (.aload_n 3, 1) := by decide +kernel
theorem dJ0_init_db425_29 : decode cJ0_init_db425 29 = .ok (.iconst 0, 1) := by decide +kernel
theorem dJ0_init_db425_30 : decode cJ0_init_db425 30 = .ok (.iload 4, 2) := by decide +kernel
theorem dJ0_init_db425_32 : decode cJ0_init_db425 32 = .ok (.invokestatic 54, 3) := by decide +kernel
theorem dJ0_init_db425_35 : decode cJ0_init_db425 35 = .ok (.putfield 9, 3) := by decide +kernel
theorem dJ0_init_db425_38 : decode cJ0_init_db425 38 = .ok (.goto 59, 3) := by decide +kernel
theorem dJ0_init_db425_41 : decode cJ0_init_db425 41 = .ok (.getstatic 38, 3) := by decide +kernel
theorem dJ0_init_db425_44 : decode cJ0_init_db425 44 = .ok (.ifCond .eq 35, 3) := by decide +kernel
theorem dJ0_init_db425_47 : decode cJ0_init_db425 47 = .ok (.aload_n 1, 1) := by decide +kernel
theorem dJ0_init_db425_48 : decode cJ0_init_db425 48 = .ok (.getfield 1048, 3) := by decide +kernel
theorem dJ0_init_db425_51 : decode cJ0_init_db425 51 = .ok (.ifCond .eq 28, 3) := by decide +kernel
theorem dJ0_init_db425_54 : decode cJ0_init_db425 54 = .ok (.aload_n 0, 1) := by decide +kernel
theorem dJ0_init_db425_55 : decode cJ0_init_db425 55 = .ok (.aload_n 3, 1) := by decide +kernel
theorem dJ0_init_db425_56 : decode cJ0_init_db425 56 = .ok (.iconst 0, 1) := by decide +kernel
theorem dJ0_init_db425_57 : decode cJ0_init_db425 57 = .ok (.iload 4, 2) := by decide +kernel
theorem dJ0_init_db425_59 : decode cJ0_init_db425 59 = .ok (.invokestatic 1051, 3) := by decide +kernel
theorem dJ0_init_db425_62 : decode cJ0_init_db425 62 = .ok (.putfield 9, 3) := by decide +kernel
theorem dJ0_init_db425_65 : decode cJ0_init_db425 65 = .ok (.aload_n 0, 1) := by decide +kernel
theorem dJ0_init_db425_66 : decode cJ0_init_db425 66 = .ok (.aload_n 0, 1) := by decide +kernel
theorem dJ0_init_db425_67 : decode cJ0_init_db425 67 = .ok (.getfield 9, 3) := by decide +kernel
theorem dJ0_init_db425_70 : decode cJ0_init_db425 70 = .ok (.iload 4, 2) := by decide +kernel
theorem dJ0_init_db425_72 : decode cJ0_init_db425 72 = .ok (.invokestatic 47, 3) := by decide +kernel
theorem dJ0_init_db425_75 : decode cJ0_init_db425 75 = .ok (.putfield 15, 3) := by decide +kernel
theorem dJ0_init_db425_78 : decode cJ0_init_db425 78 = .ok (.return_, 1) := by decide +kernel
theorem dJ0_init_db425_79 : decode cJ0_init_db425 79 = .ok (.aload_n 0, 1) := by decide +kernel
theorem dJ0_init_db425_80 : decode cJ0_init_db425 80 = .ok (.iconst 1, 1) := by decide +kernel
theorem dJ0_init_db425_81 : decode cJ0_init_db425 81 = .ok (.putfield 15, 3) := by decide +kernel
theorem dJ0_init_db425_84 : decode cJ0_init_db425 84 = .ok (.aload_n 0, 1) := by decide +kernel
theorem dJ0_init_db425_85 : decode cJ0_init_db425 85 = .ok (.aload_n 3, 1) := by decide +kernel
theorem dJ0_init_db425_86 : decode cJ0_init_db425 86 = .ok (.iconst 0, 1) := by decide +kernel
theorem dJ0_init_db425_87 : decode cJ0_init_db425 87 = .ok (.iload 4, 2) := by decide +kernel
theorem dJ0_init_db425_89 : decode cJ0_init_db425 89 = .ok (.iconst 1, 1) := by decide +kernel
theorem dJ0_init_db425_90 : decode cJ0_init_db425 90 = .ok (.ishl, 1) := by decide +kernel
theorem dJ0_init_db425_91 : decode cJ0_init_db425 91 = .ok (.invokestatic 54, 3) := by decide +kernel
theorem dJ0_init_db425_94 : decode cJ0_init_db425 94 = .ok (.putfield 9, 3) := by decide +kernel
theorem dJ0_init_db425_97 : decode cJ0_init_db425 97 = .ok (.return_, 1) := by decide +kernel
set_option maxHeartbeats 4000000 in
set_option maxRecDepth 100000 in
theorem c_sb_ini (l : Launch) (hfl : l.stackTraces = false) (ev : LEv) (D : va_G) (g : Nat → ClassId) (rs qb vb mb nb : Nat) (fb : Nat → Int32) (tl : List Int32) (hok : SBok nb tl (vb, mb, fb)) : MO l yJ0_init_db425 (Cond.code yJ0_init_db425 cJ0_init_db425 5 none) { frames := 3, cells := 1, slots := 34, locals := 86 } (KF ev) D g [.ref rs, .ref qb, .null] [(rs, .inr (0, [.null, .int 0, .int 0, .int 0])), (qb, .inr (12, [.ref vb, .int 0, .int 0, .int (nI nb)])), (vb, .inl (g 5, mb, .inl fb))] (fun a : Nat × (Nat → Int32) => TQ nb a.2 tl) (fun _ => none) (fun a => STW g rs a.1 nb a.2 ++ SBW g qb nb (vb, mb, fb)) 1 34 := by
  have m34 : mb ≤ 34 := by have : mb = 16 ∨ mb = 34 := hok.1; omega
  refine z_o_start (by decide) (Nat.le_of_ble_eq_true rfl) ?_
  intro p e s m args below meth c Q A X hr hin hK hA hQ
  refine z_lv (lv' := [(0, .ref rs), (1, .ref qb), (2, .null)]) rfl ?_
  refine z_aload_n X 0 dJ0_init_db425_0 rfl rfl ?_
  refine z_objInit X ql_J0_Object__init____V dJ0_init_db425_1 (Nat.le_of_ble_eq_true rfl) (Nat.le_of_ble_eq_true rfl) ?_
  refine z_aload_n X 1 dJ0_init_db425_4 rfl rfl ?_
  refine z_oU (n := 0) (rest := []) (wr := [(rs, .inr (0, [.null, .int 0, .int 0, .int 0]))]) (x := yJ5_getValue_6d5f1) (owner := "java/lang/AbstractStringBuilder") (C := RJ4) X (KF_ok ev) (kc_of (KF_ok ev) (fun _ _ _ q => q) hK hA (pm_bkc (wr := [(rs, .inr (0, [.null, .int 0, .int 0, .int 0]))]) (perm_of (n := 3) (E := [(rs, .inr (0, [.null, .int 0, .int 0, .int 0])), (qb, .inr (12, [.ref vb, .int 0, .int 0, .int (nI nb)])), (vb, .inl (g 5, mb, .inl fb))]) (wc := [(qb, .inr (12, [.ref vb, .int 0, .int 0, .int (nI nb)])), (vb, .inl (g 5, mb, .inl fb))]) (wr := [(rs, .inr (0, [.null, .int 0, .int 0, .int 0]))]) [1, 2] [0] rfl rfl rfl (by decide +kernel)))) hA (c_sb_val l hfl ev D g qb vb mb nb fb) qc_J5_getValue_6d5f1 qn_J5 ⟨by decide, by decide⟩ (by decide +kernel) ql_J0_J5_getValue_6d5f1 qx_sameG (va_Decl.of (X.1.2.2.2.2 _ qi_J5_getValue_6d5f1) (X.1.2.2.2.2 _ qc_J5_getValue_6d5f1)) (X.1.2.2.2.2 _ qx_selG) qi_J5_getValue_6d5f1 dJ0_init_db425_5 (perm_of (n := 3) (E := [(rs, .inr (0, [.null, .int 0, .int 0, .int 0])), (qb, .inr (12, [.ref vb, .int 0, .int 0, .int (nI nb)])), (vb, .inl (g 5, mb, .inl fb))]) (wc := [(qb, .inr (12, [.ref vb, .int 0, .int 0, .int (nI nb)])), (vb, .inl (g 5, mb, .inl fb))]) (wr := [(rs, .inr (0, [.null, .int 0, .int 0, .int 0]))]) [1, 2] [0] rfl rfl rfl (by decide +kernel)) (rc_of (q0 := 1) (ci := 12) X rfl rfl) rfl rfl ⟨Nat.le_of_ble_eq_true rfl, Nat.le_of_ble_eq_true rfl, rfl, rfl, Nat.le_of_ble_eq_true rfl, Nat.le_of_ble_eq_true rfl⟩ (Nat.le_of_ble_eq_true rfl) (fun a ha => ?_)
  refine z_perm (ws' := [(rs, .inr (0, [.null, .int 0, .int 0, .int 0])), (qb, .inr (12, [.ref vb, .int 0, .int 0, .int (nI nb)])), (vb, .inl (g 5, mb, .inl fb))]) (List.Perm.refl _) ?_
  refine z_astore_n X [(3, .ref vb), (0, .ref rs), (1, .ref qb), (2, .null)] dJ0_init_db425_8 rfl (by decide) rfl ?_
  refine z_aload_n X 2 dJ0_init_db425_9 rfl rfl ?_
  refine z_oU (n := 0) (rest := []) (wr := [(rs, .inr (0, [.null, .int 0, .int 0, .int 0]))]) (x := yJ5_length_8abf5) (owner := "java/lang/AbstractStringBuilder") (C := RJ4) X (KF_ok ev) (kc_of (KF_ok ev) (fun _ _ _ q => q) hK hA (pm_bkc (wr := [(rs, .inr (0, [.null, .int 0, .int 0, .int 0]))]) (perm_of (n := 3) (E := [(rs, .inr (0, [.null, .int 0, .int 0, .int 0])), (qb, .inr (12, [.ref vb, .int 0, .int 0, .int (nI nb)])), (vb, .inl (g 5, mb, .inl fb))]) (wc := [(qb, .inr (12, [.ref vb, .int 0, .int 0, .int (nI nb)])), (vb, .inl (g 5, mb, .inl fb))]) (wr := [(rs, .inr (0, [.null, .int 0, .int 0, .int 0]))]) [1, 2] [0] rfl rfl rfl (by decide +kernel)))) hA (c_sb_len l hfl ev D g qb vb mb nb fb) qc_J4_length_8abf5 qn_J4 ⟨by decide, by decide⟩ (by decide +kernel) ql_J0_J5_length_8abf5 qx_sameL (va_Decl.of (X.1.2.2.2.2 _ qi_J5_length_8abf5) (X.1.2.2.2.2 _ qc_J5_length_8abf5)) (X.1.2.2.2.2 _ qx_selL) qi_J4_length_8abf5 dJ0_init_db425_10 (perm_of (n := 3) (E := [(rs, .inr (0, [.null, .int 0, .int 0, .int 0])), (qb, .inr (12, [.ref vb, .int 0, .int 0, .int (nI nb)])), (vb, .inl (g 5, mb, .inl fb))]) (wc := [(qb, .inr (12, [.ref vb, .int 0, .int 0, .int (nI nb)])), (vb, .inl (g 5, mb, .inl fb))]) (wr := [(rs, .inr (0, [.null, .int 0, .int 0, .int 0]))]) [1, 2] [0] rfl rfl rfl (by decide +kernel)) (rc_of (q0 := 1) (ci := 12) X rfl rfl) rfl rfl ⟨Nat.le_of_ble_eq_true rfl, Nat.le_of_ble_eq_true rfl, rfl, rfl, Nat.le_of_ble_eq_true rfl, Nat.le_of_ble_eq_true rfl⟩ (Nat.le_of_ble_eq_true rfl) (fun a ha => ?_)
  refine z_perm (ws' := [(rs, .inr (0, [.null, .int 0, .int 0, .int 0])), (qb, .inr (12, [.ref vb, .int 0, .int 0, .int (nI nb)])), (vb, .inl (g 5, mb, .inl fb))]) (List.Perm.refl _) ?_
  refine z_istore X [(4, .int (nI nb)), (3, .ref vb), (0, .ref rs), (1, .ref qb), (2, .null)] dJ0_init_db425_13 (by decide) rfl ?_
  refine z_aload_n X 3 dJ0_init_db425_15 rfl rfl ?_
  refine z_oU (n := 0) (rest := []) (wr := [(rs, .inr (0, [.null, .int 0, .int 0, .int 0]))]) (x := yJ5_isLatin1_aae02) (owner := "java/lang/AbstractStringBuilder") (C := RJ4) X (KF_ok ev) (kc_of (KF_ok ev) (fun _ _ _ q => q) hK hA (pm_bkc (wr := [(rs, .inr (0, [.null, .int 0, .int 0, .int 0]))]) (perm_of (n := 3) (E := [(rs, .inr (0, [.null, .int 0, .int 0, .int 0])), (qb, .inr (12, [.ref vb, .int 0, .int 0, .int (nI nb)])), (vb, .inl (g 5, mb, .inl fb))]) (wc := [(qb, .inr (12, [.ref vb, .int 0, .int 0, .int (nI nb)])), (vb, .inl (g 5, mb, .inl fb))]) (wr := [(rs, .inr (0, [.null, .int 0, .int 0, .int 0]))]) [1, 2] [0] rfl rfl rfl (by decide +kernel)))) hA (c_sb_isL l hfl ev D g qb vb mb nb fb) qc_J5_isLatin1_aae02 qn_J5 ⟨by decide, by decide⟩ (by decide +kernel) ql_J0_J5_isLatin1_aae02 qx_sameI (va_Decl.of (X.1.2.2.2.2 _ qi_J5_isLatin1_aae02) (X.1.2.2.2.2 _ qc_J5_isLatin1_aae02)) (X.1.2.2.2.2 _ qx_selI) qi_J5_isLatin1_aae02 dJ0_init_db425_16 (perm_of (n := 3) (E := [(rs, .inr (0, [.null, .int 0, .int 0, .int 0])), (qb, .inr (12, [.ref vb, .int 0, .int 0, .int (nI nb)])), (vb, .inl (g 5, mb, .inl fb))]) (wc := [(qb, .inr (12, [.ref vb, .int 0, .int 0, .int (nI nb)])), (vb, .inl (g 5, mb, .inl fb))]) (wr := [(rs, .inr (0, [.null, .int 0, .int 0, .int 0]))]) [1, 2] [0] rfl rfl rfl (by decide +kernel)) (rc_of (q0 := 1) (ci := 12) X rfl rfl) rfl rfl ⟨Nat.le_of_ble_eq_true rfl, Nat.le_of_ble_eq_true rfl, rfl, rfl, Nat.le_of_ble_eq_true rfl, Nat.le_of_ble_eq_true rfl⟩ (Nat.le_of_ble_eq_true rfl) (fun a ha => ?_)
  refine z_perm (ws' := [(rs, .inr (0, [.null, .int 0, .int 0, .int 0])), (qb, .inr (12, [.ref vb, .int 0, .int 0, .int (nI nb)])), (vb, .inl (g 5, mb, .inl fb))]) (List.Perm.refl _) ?_
  refine z_if_eq (F1 := some ()) (F2 := some ()) (o := ()) X 41 dJ0_init_db425_19 (by decide) (by unfold brn; split <;> rfl) (fun hh _ => absurd hh (by decide)) (fun _ _ => ?_)
  refine z_aload_n X 2 dJ0_init_db425_22 rfl rfl ?_
  refine z_iconst X (0 : Int32) dJ0_init_db425_23 (by decide) ?_
  refine z_putF (q0 := 0) (k := 1) (ci := 0) (ws' := [(rs, .inr (0, [.null, .int (0 : Int32), .int 0, .int 0])), (qb, .inr (12, [.ref vb, .int 0, .int 0, .int (nI nb)])), (vb, .inl (g 5, mb, .inl fb))]) X hin iw_J0 tyJ0_ok nmJ0 rfl qf_J0_J0_coder (by decide) rfl rfl rfl dJ0_init_db425_24 rfl rfl rfl (Nat.le_of_ble_eq_true rfl) rfl ?_
  refine z_aload_n X 2 dJ0_init_db425_27 rfl rfl ?_
  refine z_aload_n X 1 dJ0_init_db425_28 rfl rfl ?_
  refine z_iconst X (0 : Int32) dJ0_init_db425_29 (by decide) ?_
  refine z_iload X 0 dJ0_init_db425_30 rfl ?_
  refine z_oS (rest := [.ref rs]) (wr := [(rs, .inr (0, [.null, .int (0 : Int32), .int 0, .int 0])), (qb, .inr (12, [.ref vb, .int 0, .int 0, .int (nI nb)]))]) X (KF_ok ev) (kc_of (KF_ok ev) (fun _ _ _ q => q) hK hA (pm_bkc (wr := [(rs, .inr (0, [.null, .int (0 : Int32), .int 0, .int 0])), (qb, .inr (12, [.ref vb, .int 0, .int 0, .int (nI nb)]))]) (perm_of (n := 3) (E := [(rs, .inr (0, [.null, .int (0 : Int32), .int 0, .int 0])), (qb, .inr (12, [.ref vb, .int 0, .int 0, .int (nI nb)])), (vb, .inl (g 5, mb, .inl fb))]) (wc := [(vb, .inl (g 5, mb, .inl fb))]) (wr := [(rs, .inr (0, [.null, .int (0 : Int32), .int 0, .int 0])), (qb, .inr (12, [.ref vb, .int 0, .int 0, .int (nI nb)]))]) [2] [0, 1] rfl rfl rfl (by decide +kernel)))) hA k_J7_copyOfRange_39247 (c_sb_rng l hfl ev D g vb nb mb fb hok.2.2.1 hok.2.1 m34) ql_J0_J7_copyOfRange_39247 dJ0_init_db425_32 (perm_of (n := 3) (E := [(rs, .inr (0, [.null, .int (0 : Int32), .int 0, .int 0])), (qb, .inr (12, [.ref vb, .int 0, .int 0, .int (nI nb)])), (vb, .inl (g 5, mb, .inl fb))]) (wc := [(vb, .inl (g 5, mb, .inl fb))]) (wr := [(rs, .inr (0, [.null, .int (0 : Int32), .int 0, .int 0])), (qb, .inr (12, [.ref vb, .int 0, .int 0, .int (nI nb)]))]) [2] [0, 1] rfl rfl rfl (by decide +kernel)) rfl rfl ⟨Nat.le_of_ble_eq_true rfl, Nat.le_of_ble_eq_true rfl, rfl, rfl, Nat.le_of_ble_eq_true rfl, Nat.le_of_ble_eq_true rfl⟩ (Nat.le_of_ble_eq_true rfl) (fun a ha => ?_)
  obtain ⟨v2, f2⟩ := a
  refine z_perm (ws' := [(rs, .inr (0, [.null, .int (0 : Int32), .int 0, .int 0])), (qb, .inr (12, [.ref vb, .int 0, .int 0, .int (nI nb)])), (v2, .inl (g 5, nb, .inl f2)), (vb, .inl (g 5, mb, .inl fb))]) (List.Perm.refl _) ?_
  refine z_putF (q0 := 0) (k := 0) (ci := 0) (ws' := [(rs, .inr (0, [.ref v2, .int (0 : Int32), .int 0, .int 0])), (qb, .inr (12, [.ref vb, .int 0, .int 0, .int (nI nb)])), (v2, .inl (g 5, nb, .inl f2)), (vb, .inl (g 5, mb, .inl fb))]) X hin iw_J0 tyJ0_ok nmJ0 rfl qf_J0_J0_value (by decide) rfl rfl rfl dJ0_init_db425_35 rfl rfl rfl (Nat.le_of_ble_eq_true rfl) rfl ?_
  refine z_goto X 97 dJ0_init_db425_38 (by decide) ?_
  refine z_perm (ws' := [(rs, .inr (0, [.ref v2, .int (0 : Int32), .int 0, .int 0])), (v2, .inl (g 5, nb, .inl f2)), (qb, .inr (12, [.ref vb, .int 0, .int 0, .int (nI nb)])), (vb, .inl (g 5, mb, .inl fb))]) ((perm_of (n := 4) (E := [(rs, .inr (0, [.ref v2, .int (0 : Int32), .int 0, .int 0])), (qb, .inr (12, [.ref vb, .int 0, .int 0, .int (nI nb)])), (v2, .inl (g 5, nb, .inl f2)), (vb, .inl (g 5, mb, .inl fb))]) (wc := [(rs, .inr (0, [.ref v2, .int (0 : Int32), .int 0, .int 0])), (v2, .inl (g 5, nb, .inl f2)), (qb, .inr (12, [.ref vb, .int 0, .int 0, .int (nI nb)])), (vb, .inl (g 5, mb, .inl fb))]) (wr := []) [0, 2, 1, 3] [] rfl rfl rfl (by decide +kernel)).trans (by rw [List.append_nil])) ?_
  exact z_ovret X hQ (Nat.le_of_ble_eq_true rfl) (Nat.le_of_ble_eq_true rfl) hr dJ0_init_db425_97 (v2, f2) (hok.2.2.2.copy ha) rfl (List.Perm.refl _)

theorem dJ0_init_81219_0 : decode cJ0_init_81219 0 = .ok (.aload_n 0, 1) := by decide +kernel
theorem dJ0_init_81219_1 : decode cJ0_init_81219 1 = .ok (.aload_n 1, 1) := by decide +kernel
theorem dJ0_init_81219_2 : decode cJ0_init_81219 2 = .ok (.aconst_null, 1) := by decide +kernel
theorem dJ0_init_81219_3 : decode cJ0_init_81219 3 = .ok (.invokespecial 489, 3) := by decide +kernel
theorem dJ0_init_81219_6 : decode cJ0_init_81219 6 = .ok (.return_, 1) := by decide +kernel
set_option maxHeartbeats 4000000 in
set_option maxRecDepth 100000 in
theorem c_sb_ini2 (l : Launch) (hfl : l.stackTraces = false) (ev : LEv) (D : va_G) (g : Nat → ClassId) (rs qb vb mb nb : Nat) (fb : Nat → Int32) (tl : List Int32) (hok : SBok nb tl (vb, mb, fb)) : MO l yJ0_init_81219 (Cond.code yJ0_init_81219 cJ0_init_81219 2 none) { frames := 4, cells := 1, slots := 34, locals := 110 } (KF ev) D g [.ref rs, .ref qb] [(rs, .inr (0, [.null, .int 0, .int 0, .int 0])), (qb, .inr (12, [.ref vb, .int 0, .int 0, .int (nI nb)])), (vb, .inl (g 5, mb, .inl fb))] (fun a : Nat × (Nat → Int32) => TQ nb a.2 tl) (fun _ => none) (fun a => STW g rs a.1 nb a.2 ++ SBW g qb nb (vb, mb, fb)) 1 34 := by
  refine z_o_start (by decide) (Nat.le_of_ble_eq_true rfl) ?_
  intro p e s m args below meth c Q A X hr hin hK hA hQ
  refine z_lv (lv' := [(0, .ref rs), (1, .ref qb)]) rfl ?_
  refine z_aload_n X 0 dJ0_init_81219_0 rfl rfl ?_
  refine z_aload_n X 1 dJ0_init_81219_1 rfl rfl ?_
  refine z_anull X dJ0_init_81219_2 ?_
  refine z_oI (n := 2) (rest := []) (wr := []) X (KF_ok ev) (kc_of (KF_ok ev) (fun _ _ _ q => q) hK hA (pm_bkc (wr := []) (perm_of (n := 3) (E := [(rs, .inr (0, [.null, .int 0, .int 0, .int 0])), (qb, .inr (12, [.ref vb, .int 0, .int 0, .int (nI nb)])), (vb, .inl (g 5, mb, .inl fb))]) (wc := [(rs, .inr (0, [.null, .int 0, .int 0, .int 0])), (qb, .inr (12, [.ref vb, .int 0, .int 0, .int (nI nb)])), (vb, .inl (g 5, mb, .inl fb))]) (wr := []) [0, 1, 2] [] rfl rfl rfl (by decide +kernel)))) hA (c_sb_ini l hfl ev D g rs qb vb mb nb fb tl hok) qc_J0_init_db425 qn_J0 rfl ⟨by decide, by decide⟩ (by decide +kernel) ql_J0_J0_init_db425 qi_J0_init_db425 dJ0_init_81219_3 (perm_of (n := 3) (E := [(rs, .inr (0, [.null, .int 0, .int 0, .int 0])), (qb, .inr (12, [.ref vb, .int 0, .int 0, .int (nI nb)])), (vb, .inl (g 5, mb, .inl fb))]) (wc := [(rs, .inr (0, [.null, .int 0, .int 0, .int 0])), (qb, .inr (12, [.ref vb, .int 0, .int 0, .int (nI nb)])), (vb, .inl (g 5, mb, .inl fb))]) (wr := []) [0, 1, 2] [] rfl rfl rfl (by decide +kernel)) rfl rfl ⟨Nat.le_of_ble_eq_true rfl, Nat.le_of_ble_eq_true rfl, rfl, rfl, Nat.le_of_ble_eq_true rfl, Nat.le_of_ble_eq_true rfl⟩ (Nat.le_of_ble_eq_true rfl) (fun a ha => ?_)
  obtain ⟨v2, f2⟩ := a
  refine z_perm (ws' := [(rs, .inr (0, [.ref v2, .int 0, .int 0, .int 0])), (v2, .inl (g 5, nb, .inl f2)), (qb, .inr (12, [.ref vb, .int 0, .int 0, .int (nI nb)])), (vb, .inl (g 5, mb, .inl fb))]) (List.Perm.refl _) ?_
  exact z_ovret X hQ (Nat.le_of_ble_eq_true rfl) (Nat.le_of_ble_eq_true rfl) hr dJ0_init_81219_6 (v2, f2) ha rfl (List.Perm.refl _)

theorem k_J4_toString_0e30d : cardV yJ4_toString_0e30d (Cond.code yJ4_toString_0e30d cJ4_toString_0e30d 1 (some (.object "java/lang/String"))) 0 := ⟨⟨qi_J4_toString_0e30d, qv_J4_toString_0e30d⟩, qc_J4_toString_0e30d, qn_J4, by decide +kernel, by decide +kernel, by decide +kernel⟩

theorem dJ4_toString_0e30d_0 : decode cJ4_toString_0e30d 0 = .ok (.new 18, 3) := by decide +kernel
theorem dJ4_toString_0e30d_3 : decode cJ4_toString_0e30d 3 = .ok (.dup, 1) := by decide +kernel
theorem dJ4_toString_0e30d_4 : decode cJ4_toString_0e30d 4 = .ok (.aload_n 0, 1) := by decide +kernel
theorem dJ4_toString_0e30d_5 : decode cJ4_toString_0e30d 5 = .ok (.invokespecial 137, 3) := by decide +kernel
theorem dJ4_toString_0e30d_8 : decode cJ4_toString_0e30d 8 = .ok (.areturn, 1) := by decide +kernel
set_option maxHeartbeats 4000000 in
set_option maxRecDepth 100000 in
theorem c_sb_str (l : Launch) (hfl : l.stackTraces = false) (ev : LEv) (D : va_G) (g : Nat → ClassId) (qb vb mb nb : Nat) (fb : Nat → Int32) (tl : List Int32) (hok : SBok nb tl (vb, mb, fb)) : MO l yJ4_toString_0e30d (Cond.code yJ4_toString_0e30d cJ4_toString_0e30d 1 (some (.object "java/lang/String"))) { frames := 5, cells := 2, slots := 38, locals := 131 } (KF ev) D g [.ref qb] [(qb, .inr (12, [.ref vb, .int 0, .int 0, .int (nI nb)])), (vb, .inl (g 5, mb, .inl fb))] (fun a : Nat × Nat × (Nat → Int32) => TQ nb a.2.2 tl) (fun a => some (.ref a.1)) (fun a => STW g a.1 a.2.1 nb a.2.2 ++ SBW g qb nb (vb, mb, fb)) 2 38 := by
  refine z_o_start (by decide) (Nat.le_of_ble_eq_true rfl) ?_
  intro p e s m args below meth c Q A X hr hin hK hA hQ
  refine z_lv (lv' := [(0, .ref qb)]) rfl ?_
  refine z_new (ci := 0) [.null, .int 0, .int 0, .int 0] X hA iw_J0 tyJ0_ok qk_J4_J0 qt_J0 qn_J0 rfl (fun j hj => by rcases (show j = 0 ∨ j = 1 ∨ j = 2 ∨ j = 3 by omega) with rfl | rfl | rfl | rfl <;> rfl) (Nat.le_of_ble_eq_true rfl) (Nat.le_of_ble_eq_true rfl) dJ4_toString_0e30d_0 (fun r5 => ?_)
  refine z_perm (ws' := [(r5, .inr (0, [.null, .int 0, .int 0, .int 0])), (qb, .inr (12, [.ref vb, .int 0, .int 0, .int (nI nb)])), (vb, .inl (g 5, mb, .inl fb))]) List.perm_append_comm ?_
  refine z_dup X dJ4_toString_0e30d_3 rfl ?_
  refine z_aload_n X 0 dJ4_toString_0e30d_4 rfl rfl ?_
  refine z_oI (n := 1) (rest := [.ref r5]) (wr := []) X (KF_ok ev) (kc_of (KF_ok ev) (fun _ _ _ q => q) hK hA (pm_bkc (wr := []) (perm_of (n := 3) (E := [(r5, .inr (0, [.null, .int 0, .int 0, .int 0])), (qb, .inr (12, [.ref vb, .int 0, .int 0, .int (nI nb)])), (vb, .inl (g 5, mb, .inl fb))]) (wc := [(r5, .inr (0, [.null, .int 0, .int 0, .int 0])), (qb, .inr (12, [.ref vb, .int 0, .int 0, .int (nI nb)])), (vb, .inl (g 5, mb, .inl fb))]) (wr := []) [0, 1, 2] [] rfl rfl rfl (by decide +kernel)))) hA (c_sb_ini2 l hfl ev D g r5 qb vb mb nb fb tl hok) qc_J0_init_81219 qn_J0 rfl ⟨by decide, by decide⟩ (by decide +kernel) ql_J4_J0_init_81219 qi_J0_init_81219 dJ4_toString_0e30d_5 (perm_of (n := 3) (E := [(r5, .inr (0, [.null, .int 0, .int 0, .int 0])), (qb, .inr (12, [.ref vb, .int 0, .int 0, .int (nI nb)])), (vb, .inl (g 5, mb, .inl fb))]) (wc := [(r5, .inr (0, [.null, .int 0, .int 0, .int 0])), (qb, .inr (12, [.ref vb, .int 0, .int 0, .int (nI nb)])), (vb, .inl (g 5, mb, .inl fb))]) (wr := []) [0, 1, 2] [] rfl rfl rfl (by decide +kernel)) rfl rfl ⟨Nat.le_of_ble_eq_true rfl, Nat.le_of_ble_eq_true rfl, rfl, rfl, Nat.le_of_ble_eq_true rfl, Nat.le_of_ble_eq_true rfl⟩ (Nat.le_of_ble_eq_true rfl) (fun a ha => ?_)
  obtain ⟨v2, f2⟩ := a
  refine z_perm (ws' := [(r5, .inr (0, [.ref v2, .int 0, .int 0, .int 0])), (v2, .inl (g 5, nb, .inl f2)), (qb, .inr (12, [.ref vb, .int 0, .int 0, .int (nI nb)])), (vb, .inl (g 5, mb, .inl fb))]) (List.Perm.refl _) ?_
  exact z_oaret X hQ (Nat.le_of_ble_eq_true rfl) (Nat.le_of_ble_eq_true rfl) hr (Or.inl ⟨_, rfl⟩) dJ4_toString_0e30d_8 (r5, v2, f2) ha rfl (List.Perm.refl _)

theorem dJ5_init_d00df_0 : decode cJ5_init_d00df 0 = .ok (.aload_n 0, 1) := by decide +kernel
theorem dJ5_init_d00df_1 : decode cJ5_init_d00df 1 = .ok (.invokespecial 3, 3) := by decide +kernel
theorem dJ5_init_d00df_4 : decode cJ5_init_d00df 4 = .ok (.getstatic 18, 3) := by decide +kernel
theorem dJ5_init_d00df_7 : decode cJ5_init_d00df 7 = .ok (.ifCond .eq 18, 3) := by decide +kernel
theorem dJ5_init_d00df_10 : decode cJ5_init_d00df 10 = .ok (.aload_n 0, 1) := by decide +kernel
theorem dJ5_init_d00df_11 : decode cJ5_init_d00df 11 = .ok (.iload_n 1, 1) := by decide +kernel
theorem dJ5_init_d00df_12 : decode cJ5_init_d00df 12 = .ok (.newarray .byte, 2) := by decide +kernel
theorem dJ5_init_d00df_14 : decode cJ5_init_d00df 14 = .ok (.putfield 15, 3) := by decide +kernel
theorem dJ5_init_d00df_17 : decode cJ5_init_d00df 17 = .ok (.aload_n 0, 1) := by decide +kernel
theorem dJ5_init_d00df_18 : decode cJ5_init_d00df 18 = .ok (.iconst 0, 1) := by decide +kernel
theorem dJ5_init_d00df_19 : decode cJ5_init_d00df 19 = .ok (.putfield 22, 3) := by decide +kernel
theorem dJ5_init_d00df_22 : decode cJ5_init_d00df 22 = .ok (.goto 16, 3) := by decide +kernel
theorem dJ5_init_d00df_25 : decode cJ5_init_d00df 25 = .ok (.aload_n 0, 1) := by decide +kernel
theorem dJ5_init_d00df_26 : decode cJ5_init_d00df 26 = .ok (.iload_n 1, 1) := by decide +kernel
theorem dJ5_init_d00df_27 : decode cJ5_init_d00df 27 = .ok (.invokestatic 26, 3) := by decide +kernel
theorem dJ5_init_d00df_30 : decode cJ5_init_d00df 30 = .ok (.putfield 15, 3) := by decide +kernel
theorem dJ5_init_d00df_33 : decode cJ5_init_d00df 33 = .ok (.aload_n 0, 1) := by decide +kernel
theorem dJ5_init_d00df_34 : decode cJ5_init_d00df 34 = .ok (.iconst 1, 1) := by decide +kernel
theorem dJ5_init_d00df_35 : decode cJ5_init_d00df 35 = .ok (.putfield 22, 3) := by decide +kernel
theorem dJ5_init_d00df_38 : decode cJ5_init_d00df 38 = .ok (.return_, 1) := by decide +kernel
set_option maxHeartbeats 4000000 in
set_option maxRecDepth 100000 in
theorem c_sb_new5 (l : Launch) (hfl : l.stackTraces = false) (ev : LEv) (D : va_G) (g : Nat → ClassId) (qb : Nat) : MO l yJ5_init_d00df (Cond.code yJ5_init_d00df cJ5_init_d00df 2 none) { frames := 1, cells := 1, slots := 16, locals := 40 } (KF ev) D g [.ref qb, .int (16 : Int32)] [(qb, .inr (12, [.null, .int 0, .int 0, .int 0]))] (fun _ : Nat => True) (fun _ => none) (fun a => SBW g qb 0 (a, 16, fun _ => 0)) 1 16 := by
  refine z_o_start (by decide) (Nat.le_of_ble_eq_true rfl) ?_
  intro p e s m args below meth c Q A X hr hin hK hA hQ
  refine z_lv (lv' := [(0, .ref qb), (1, .int (16 : Int32))]) rfl ?_
  refine z_aload_n X 0 dJ5_init_d00df_0 rfl rfl ?_
  refine z_objInit X ql_J5_Object__init____V dJ5_init_d00df_1 (Nat.le_of_ble_eq_true rfl) (Nat.le_of_ble_eq_true rfl) ?_
  refine z_gets X IW_S hK.1.2.1.2 qf_J5_J0_COMPACT_STRINGS dJ5_init_d00df_4 ?_
  refine z_if_eq (F1 := some ()) (F2 := some ()) (o := ()) X 25 dJ5_init_d00df_7 (by decide) (by unfold brn; split <;> rfl) (fun hh _ => absurd hh (by decide)) (fun _ _ => ?_)
  refine z_aload_n X 0 dJ5_init_d00df_10 rfl rfl ?_
  refine z_iload_n X 1 dJ5_init_d00df_11 rfl rfl ?_
  refine z_newa (atype := .byte) (a0 := (16, .inl (fun _ => 0))) (ty := .byte) 5 X hA qa_byte rfl rfl (fun _ _ h => h) (fun _ => rfl) (by decide) rfl (Nat.le_of_ble_eq_true rfl) (Nat.le_of_ble_eq_true rfl) (Nat.le_of_ble_eq_true rfl) dJ5_init_d00df_12 (fun a5 => ?_)
  refine z_perm (ws' := [(a5, .inl (g 5, 16, .inl (fun _ => 0))), (qb, .inr (12, [.null, .int 0, .int 0, .int 0]))]) List.perm_append_comm ?_
  refine z_put (q0 := 1) (k := 0) (ci := 12) (ws' := [(a5, .inl (g 5, 16, .inl (fun _ => 0))), (qb, .inr (12, [.ref a5, .int 0, .int 0, .int 0]))]) X iw_J4 tyJ4_ok nmJ4 rfl qf_J5_J5_value (by decide) rfl rfl dJ5_init_d00df_14 rfl rfl rfl (Nat.le_of_ble_eq_true rfl) rfl ?_
  refine z_aload_n X 0 dJ5_init_d00df_17 rfl rfl ?_
  refine z_iconst X (0 : Int32) dJ5_init_d00df_18 (by decide) ?_
  refine z_put (q0 := 1) (k := 1) (ci := 12) (ws' := [(a5, .inl (g 5, 16, .inl (fun _ => 0))), (qb, .inr (12, [.ref a5, .int (0 : Int32), .int 0, .int 0]))]) X iw_J4 tyJ4_ok nmJ4 rfl qf_J5_J5_coder (by decide) rfl rfl dJ5_init_d00df_19 rfl rfl rfl (Nat.le_of_ble_eq_true rfl) rfl ?_
  refine z_goto X 38 dJ5_init_d00df_22 (by decide) ?_
  refine z_perm (ws' := [(qb, .inr (12, [.ref a5, .int (0 : Int32), .int 0, .int 0])), (a5, .inl (g 5, 16, .inl (fun _ => 0)))]) ((perm_of (n := 2) (E := [(a5, .inl (g 5, 16, .inl (fun _ => 0))), (qb, .inr (12, [.ref a5, .int (0 : Int32), .int 0, .int 0]))]) (wc := [(qb, .inr (12, [.ref a5, .int (0 : Int32), .int 0, .int 0])), (a5, .inl (g 5, 16, .inl (fun _ => 0)))]) (wr := []) [1, 0] [] rfl rfl rfl (by decide +kernel)).trans (by rw [List.append_nil])) ?_
  exact z_ovret X hQ (Nat.le_of_ble_eq_true rfl) (Nat.le_of_ble_eq_true rfl) hr dJ5_init_d00df_38 a5 trivial rfl (List.Perm.refl _)

theorem dJ4_init_da8c8_0 : decode cJ4_init_da8c8 0 = .ok (.aload_n 0, 1) := by decide +kernel
theorem dJ4_init_da8c8_1 : decode cJ4_init_da8c8 1 = .ok (.bipush 16, 2) := by decide +kernel
theorem dJ4_init_da8c8_3 : decode cJ4_init_da8c8 3 = .ok (.invokespecial 1, 3) := by decide +kernel
theorem dJ4_init_da8c8_6 : decode cJ4_init_da8c8 6 = .ok (.return_, 1) := by decide +kernel
set_option maxHeartbeats 4000000 in
set_option maxRecDepth 100000 in
theorem c_sb_new (l : Launch) (hfl : l.stackTraces = false) (ev : LEv) (D : va_G) (g : Nat → ClassId) (qb : Nat) : MO l yJ4_init_da8c8 (Cond.code yJ4_init_da8c8 cJ4_init_da8c8 1 none) { frames := 2, cells := 1, slots := 16, locals := 61 } (KF ev) D g [.ref qb] [(qb, .inr (12, [.null, .int 0, .int 0, .int 0]))] (fun a : SBt => SBok 0 [] a) (fun _ => none) (fun a => SBW g qb 0 a) 1 16 := by
  refine z_o_start (by decide) (Nat.le_of_ble_eq_true rfl) ?_
  intro p e s m args below meth c Q A X hr hin hK hA hQ
  refine z_lv (lv' := [(0, .ref qb)]) rfl ?_
  refine z_aload_n X 0 dJ4_init_da8c8_0 rfl rfl ?_
  refine z_bipush X (16 : Int32) dJ4_init_da8c8_1 (by decide) ?_
  refine z_oI (n := 1) (rest := []) (wr := []) X (KF_ok ev) (kc_of (KF_ok ev) (fun _ _ _ q => q) hK hA (pm_bkc (wr := []) (perm_of (n := 1) (E := [(qb, .inr (12, [.null, .int 0, .int 0, .int 0]))]) (wc := [(qb, .inr (12, [.null, .int 0, .int 0, .int 0]))]) (wr := []) [0] [] rfl rfl rfl (by decide +kernel)))) hA (c_sb_new5 l hfl ev D g qb) qc_J5_init_d00df qn_J5 rfl ⟨by decide, by decide⟩ (by decide +kernel) ql_J4_J5_init_d00df qi_J5_init_d00df dJ4_init_da8c8_3 (perm_of (n := 1) (E := [(qb, .inr (12, [.null, .int 0, .int 0, .int 0]))]) (wc := [(qb, .inr (12, [.null, .int 0, .int 0, .int 0]))]) (wr := []) [0] [] rfl rfl rfl (by decide +kernel)) rfl rfl ⟨Nat.le_of_ble_eq_true rfl, Nat.le_of_ble_eq_true rfl, rfl, rfl, Nat.le_of_ble_eq_true rfl, Nat.le_of_ble_eq_true rfl⟩ (Nat.le_of_ble_eq_true rfl) (fun a ha => ?_)
  refine z_perm (ws' := [(qb, .inr (12, [.ref a, .int 0, .int 0, .int (nI 0)])), (a, .inl (g 5, 16, .inl (fun _ => 0)))]) (List.Perm.refl _) ?_
  exact z_ovret X hQ (Nat.le_of_ble_eq_true rfl) (Nat.le_of_ble_eq_true rfl) hr dJ4_init_da8c8_6 (a, 16, fun _ => 0) ⟨Or.inl rfl, Nat.zero_le _, sb_fit0, TQ.nil _⟩ rfl (List.Perm.refl _)
