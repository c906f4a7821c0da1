theorem k_J7_checkLength_df160 : cardS yJ7_checkLength_df160 (Cond.code yJ7_checkLength_df160 cJ7_checkLength_df160 2 none) 2 := ⟨qs_J7_checkLength_df160, qc_J7_checkLength_df160, qn_J7, by decide +kernel, by decide +kernel, by decide +kernel⟩

theorem dJ7_checkLength_df160_0 : decode cJ7_checkLength_df160 0 = .ok (.iload_n 1, 1) := by decide +kernel
theorem dJ7_checkLength_df160_1 : decode cJ7_checkLength_df160 1 = .ok (.iload_n 0, 1) := by decide +kernel
theorem dJ7_checkLength_df160_2 : decode cJ7_checkLength_df160 2 = .ok (.if_icmp .ge 35, 3) := by decide +kernel
theorem dJ7_checkLength_df160_5 : decode cJ7_checkLength_df160 5 = .ok (.new 43, 3) := by decide +kernel
theorem dJ7_checkLength_df160_8 : decode cJ7_checkLength_df160 8 = .ok (.dup, 1) := by decide +kernel
theorem dJ7_checkLength_df160_9 : decode cJ7_checkLength_df160 9 = .ok (.new 45, 3) := by decide +kernel
theorem dJ7_checkLength_df160_12 : decode cJ7_checkLength_df160 12 = .ok (.dup, 1) := by decide +kernel
theorem dJ7_checkLength_df160_13 : decode cJ7_checkLength_df160 13 = .ok (.invokespecial 47, 3) := by decide +kernel
theorem dJ7_checkLength_df160_16 : decode cJ7_checkLength_df160 16 = .ok (.iload_n 0, 1) := by decide +kernel
theorem dJ7_checkLength_df160_17 : decode cJ7_checkLength_df160 17 = .ok (.invokevirtual 54, 3) := by decide +kernel
theorem dJ7_checkLength_df160_20 : decode cJ7_checkLength_df160 20 = .ok (.ldc_w 337, 3) := by decide +kernel
theorem dJ7_checkLength_df160_23 : decode cJ7_checkLength_df160 23 = .ok (.invokevirtual 50, 3) := by decide +kernel
theorem dJ7_checkLength_df160_26 : decode cJ7_checkLength_df160 26 = .ok (.iload_n 1, 1) := by decide +kernel
theorem dJ7_checkLength_df160_27 : decode cJ7_checkLength_df160 27 = .ok (.invokevirtual 54, 3) := by decide +kernel
theorem dJ7_checkLength_df160_30 : decode cJ7_checkLength_df160 30 = .ok (.invokevirtual 61, 3) := by decide +kernel
theorem dJ7_checkLength_df160_33 : decode cJ7_checkLength_df160 33 = .ok (.invokespecial 65, 3) := by decide +kernel
theorem dJ7_checkLength_df160_36 : decode cJ7_checkLength_df160 36 = .ok (.athrow, 1) := by decide +kernel
theorem dJ7_checkLength_df160_37 : decode cJ7_checkLength_df160 37 = .ok (.return_, 1) := by decide +kernel
set_option maxHeartbeats 4000000 in
set_option maxRecDepth 100000 in
theorem c_sb_chk (l : Launch) (hfl : l.stackTraces = false) (ev : LEv) (D : va_G) (g : Nat → ClassId) (ab bb : Nat) (h1 : ab ≤ bb) (h2 : bb ≤ 34) : MO l yJ7_checkLength_df160 (Cond.code yJ7_checkLength_df160 cJ7_checkLength_df160 2 none) { frames := 0, cells := 0, slots := 0, locals := 0 } (KF ev) D g [.int (nI ab), .int (nI bb)] [] (fun _ : Unit => True) (fun _ => none) (fun _ => []) 0 0 := by
  refine z_o_start (by decide) (Nat.le_of_ble_eq_true rfl) ?_
  intro p e s m args below meth c Q A X hr hin hK hA hQ
  refine z_lv (lv' := [(0, .int (nI ab)), (1, .int (nI bb))]) rfl ?_
  refine z_iload_n X 1 dJ7_checkLength_df160_0 rfl rfl ?_
  refine z_iload_n X 0 dJ7_checkLength_df160_1 rfl rfl ?_
  refine z_icmp_ge (F1 := some ()) (F2 := some ()) (o := ()) X 37 dJ7_checkLength_df160_2 (by decide) (by unfold brn; split <;> rfl) (fun _ _ => ?_) (fun hh _ => absurd ((nI_leI (by omega) (by omega)).mpr h1) hh)
  exact z_ovret X hQ (Nat.le_of_ble_eq_true rfl) (Nat.le_of_ble_eq_true rfl) hr dJ7_checkLength_df160_37 () trivial rfl (List.Perm.refl _)

theorem k_J7_copyOfRangeByte_39247 : cardS yJ7_copyOfRangeByte_39247 (Cond.code yJ7_copyOfRangeByte_39247 cJ7_copyOfRangeByte_39247 5 (some (.array .byte))) 3 := ⟨qs_J7_copyOfRangeByte_39247, qc_J7_copyOfRangeByte_39247, qn_J7, by decide +kernel, by decide +kernel, by decide +kernel⟩

theorem dJ7_copyOfRangeByte_39247_0 : decode cJ7_copyOfRangeByte_39247 0 = .ok (.iload_n 1, 1) := by decide +kernel
theorem dJ7_copyOfRangeByte_39247_1 : decode cJ7_copyOfRangeByte_39247 1 = .ok (.iload_n 2, 1) := by decide +kernel
theorem dJ7_copyOfRangeByte_39247_2 : decode cJ7_copyOfRangeByte_39247 2 = .ok (.invokestatic 343, 3) := by decide +kernel
theorem dJ7_copyOfRangeByte_39247_5 : decode cJ7_copyOfRangeByte_39247 5 = .ok (.iload_n 2, 1) := by decide +kernel
theorem dJ7_copyOfRangeByte_39247_6 : decode cJ7_copyOfRangeByte_39247 6 = .ok (.iload_n 1, 1) := by decide +kernel
theorem dJ7_copyOfRangeByte_39247_7 : decode cJ7_copyOfRangeByte_39247 7 = .ok (.isub, 1) := by decide +kernel
theorem dJ7_copyOfRangeByte_39247_8 : decode cJ7_copyOfRangeByte_39247 8 = .ok (.istore_n 3, 1) := by decide +kernel
theorem dJ7_copyOfRangeByte_39247_9 : decode cJ7_copyOfRangeByte_39247 9 = .ok (.iload_n 3, 1) := by decide +kernel
theorem dJ7_copyOfRangeByte_39247_10 : decode cJ7_copyOfRangeByte_39247 10 = .ok (.newarray .byte, 2) := by decide +kernel
theorem dJ7_copyOfRangeByte_39247_12 : decode cJ7_copyOfRangeByte_39247 12 = .ok (.astore 4, 2) := by decide +kernel
theorem dJ7_copyOfRangeByte_39247_14 : decode cJ7_copyOfRangeByte_39247 14 = .ok (.aload_n 0, 1) := by decide +kernel
theorem dJ7_copyOfRangeByte_39247_15 : decode cJ7_copyOfRangeByte_39247 15 = .ok (.iload_n 1, 1) := by decide +kernel
theorem dJ7_copyOfRangeByte_39247_16 : decode cJ7_copyOfRangeByte_39247 16 = .ok (.aload 4, 2) := by decide +kernel
theorem dJ7_copyOfRangeByte_39247_18 : decode cJ7_copyOfRangeByte_39247 18 = .ok (.iconst 0, 1) := by decide +kernel
theorem dJ7_copyOfRangeByte_39247_19 : decode cJ7_copyOfRangeByte_39247 19 = .ok (.aload_n 0, 1) := by decide +kernel
theorem dJ7_copyOfRangeByte_39247_20 : decode cJ7_copyOfRangeByte_39247 20 = .ok (.arraylength, 1) := by decide +kernel
theorem dJ7_copyOfRangeByte_39247_21 : decode cJ7_copyOfRangeByte_39247 21 = .ok (.iload_n 1, 1) := by decide +kernel
theorem dJ7_copyOfRangeByte_39247_22 : decode cJ7_copyOfRangeByte_39247 22 = .ok (.isub, 1) := by decide +kernel
theorem dJ7_copyOfRangeByte_39247_23 : decode cJ7_copyOfRangeByte_39247 23 = .ok (.iload_n 3, 1) := by decide +kernel
theorem dJ7_copyOfRangeByte_39247_24 : decode cJ7_copyOfRangeByte_39247 24 = .ok (.invokestatic 304, 3) := by decide +kernel
theorem dJ7_copyOfRangeByte_39247_27 : decode cJ7_copyOfRangeByte_39247 27 = .ok (.invokestatic 150, 3) := by decide +kernel
theorem dJ7_copyOfRangeByte_39247_30 : decode cJ7_copyOfRangeByte_39247 30 = .ok (.aload 4, 2) := by decide +kernel
theorem dJ7_copyOfRangeByte_39247_32 : decode cJ7_copyOfRangeByte_39247 32 = .ok (.areturn, 1) := by decide +kernel
set_option maxHeartbeats 4000000 in
set_option maxRecDepth 100000 in
theorem c_sb_rngB (l : Launch) (hfl : l.stackTraces = false) (ev : LEv) (D : va_G) (g : Nat → ClassId) (vb mb nb : Nat) (fb : Nat → Int32) (hf : sb_Fit fb) (h1 : nb ≤ mb) (h2 : mb ≤ 34) : MO l yJ7_copyOfRangeByte_39247 (Cond.code yJ7_copyOfRangeByte_39247 cJ7_copyOfRangeByte_39247 5 (some (.array .byte))) { frames := 1, cells := 1, slots := 34, locals := 40 } (KF ev) D g [.ref vb, .int (0 : Int32), .int (nI nb)] [(vb, .inl (g 5, mb, .inl fb))] (fun _ : Nat => True) (fun a => some (.ref a)) (fun a => [(a, .inl (g 5, nb, .inl (va_cpy fb (fun _ => 0) 0 0 nb))), (vb, .inl (g 5, mb, .inl fb))]) 1 34 := by
  refine z_o_start (by decide) (Nat.le_of_ble_eq_true rfl) ?_
  intro p e s m args below meth c Q A X hr hin hK hA hQ
  refine z_lv (lv' := [(0, .ref vb), (1, .int (0 : Int32)), (2, .int (nI nb))]) rfl ?_
  refine z_iload_n X 1 dJ7_copyOfRangeByte_39247_0 rfl rfl ?_
  refine z_iload_n X 2 dJ7_copyOfRangeByte_39247_1 rfl rfl ?_
  refine z_oS (rest := []) (wr := [(vb, .inl (g 5, mb, .inl fb))]) X (KF_ok ev) (kc_of (KF_ok ev) (fun _ _ _ q => q) hK hA (pm_bkc (wr := [(vb, .inl (g 5, mb, .inl fb))]) (List.Perm.refl _))) hA k_J7_checkLength_df160 (c_sb_chk l hfl ev D g 0 nb (by omega) (by omega)) ql_J7_J7_checkLength_df160 dJ7_copyOfRangeByte_39247_2 (List.Perm.refl _) rfl rfl ⟨Nat.le_of_ble_eq_true rfl, Nat.le_of_ble_eq_true rfl, rfl, rfl, Nat.le_of_ble_eq_true rfl, Nat.le_of_ble_eq_true rfl⟩ (Nat.le_of_ble_eq_true rfl) (fun a ha => ?_)
  refine z_perm (ws' := [(vb, .inl (g 5, mb, .inl fb))]) (List.Perm.refl _) ?_
  refine z_iload_n X 2 dJ7_copyOfRangeByte_39247_5 rfl rfl ?_
  refine z_iload_n X 1 dJ7_copyOfRangeByte_39247_6 rfl rfl ?_
  refine z_isub X dJ7_copyOfRangeByte_39247_7 ?_
  rw [show (((nI nb) - (0 : Int32)) : Int32) = nI nb from (by rw [Int32.sub_zero])]
  refine z_istore_n X [(3, .int (nI nb)), (0, .ref vb), (1, .int (0 : Int32)), (2, .int (nI nb))] dJ7_copyOfRangeByte_39247_8 rfl (by decide) rfl ?_
  refine z_iload_n X 0 dJ7_copyOfRangeByte_39247_9 rfl rfl ?_
  refine z_newa (atype := .byte) (a0 := (nb, .inl (fun _ => 0))) (ty := .byte) 5 X hA qa_byte rfl rfl (fun _ _ h => h) (fun _ => rfl) (nI_pos (by omega)) (nI_clamp (by omega)) (by show nb * 1 ≤ _; omega) (Nat.le_of_ble_eq_true rfl) (by show 0 + 0 + nb ≤ 34; omega) dJ7_copyOfRangeByte_39247_10 (fun a5 => ?_)
  refine z_perm (ws' := [(a5, .inl (g 5, nb, .inl (fun _ => 0))), (vb, .inl (g 5, mb, .inl fb))]) List.perm_append_comm ?_
  refine z_astore X [(4, .ref a5), (3, .int (nI nb)), (0, .ref vb), (1, .int (0 : Int32)), (2, .int (nI nb))] dJ7_copyOfRangeByte_39247_12 (by decide) rfl ?_
  refine z_aload_n X 2 dJ7_copyOfRangeByte_39247_14 rfl rfl ?_
  refine z_iload_n X 3 dJ7_copyOfRangeByte_39247_15 rfl rfl ?_
  refine z_aload X 0 dJ7_copyOfRangeByte_39247_16 rfl ?_
  refine z_iconst X (0 : Int32) dJ7_copyOfRangeByte_39247_18 (by decide) ?_
  refine z_aload_n X 2 dJ7_copyOfRangeByte_39247_19 rfl rfl ?_
  refine z_alen (q0 := 1) (v := nI mb) X IW_P 5 dJ7_copyOfRangeByte_39247_20 rfl rfl rfl ?_
  refine z_iload_n X 3 dJ7_copyOfRangeByte_39247_21 rfl rfl ?_
  refine z_isub X dJ7_copyOfRangeByte_39247_22 ?_
  rw [show (((nI mb) - (0 : Int32)) : Int32) = nI mb from (by rw [Int32.sub_zero])]
  refine z_iload_n X 1 dJ7_copyOfRangeByte_39247_23 rfl rfl ?_
  refine z_mmin X ql_J7_mmin dJ7_copyOfRangeByte_39247_24 (Nat.le_of_ble_eq_true rfl) (Nat.le_of_ble_eq_true rfl) (Nat.le_of_ble_eq_true rfl) (by show 0 + 0 + nb ≤ 34; omega) ?_
  have e0 : (if nI nb < nI mb then nI nb else nI mb) = nI nb := by
    by_cases z9 : nb = mb
    · subst z9; exact ite_self _
    · exact if_pos (nI_lt (by omega) (by omega))
  rw [e0]
  refine z_copyb (q0 := 1) (q1 := 0) (ws' := [(a5, .inl (g 5, nb, .inl (va_cpy fb (fun _ => 0) 0 0 nb))), (vb, .inl (g 5, mb, .inl fb))]) X ql_J7_ac dJ7_copyOfRangeByte_39247_27 rfl rfl ⟨by decide, by decide, nI_pos (by omega), by rw [sb_cl0, nI_clamp (by omega)]; omega, by rw [sb_cl0, nI_clamp (by omega)]; omega⟩ hf (by rw [nI_clamp (n := nb) (by omega), sb_cl0]; rfl) (Nat.le_of_ble_eq_true rfl) (Nat.le_of_ble_eq_true rfl) ?_
  refine z_aload X 0 dJ7_copyOfRangeByte_39247_30 rfl ?_
  exact z_oaret X hQ (Nat.le_of_ble_eq_true rfl) (by show 0 + 0 + nb ≤ 34; omega) hr (Or.inr ⟨_, rfl⟩) dJ7_copyOfRangeByte_39247_32 a5 trivial rfl (List.Perm.refl _)

theorem k_J7_copyOfRange_39247 : cardS yJ7_copyOfRange_39247 (Cond.code yJ7_copyOfRange_39247 cJ7_copyOfRange_39247 3 (some (.array .byte))) 3 := ⟨qs_J7_copyOfRange_39247, qc_J7_copyOfRange_39247, qn_J7, by decide +kernel, by decide +kernel, by decide +kernel⟩

theorem dJ7_copyOfRange_39247_0 : decode cJ7_copyOfRange_39247 0 = .ok (.iload_n 1, 1) := by decide +kernel
theorem dJ7_copyOfRange_39247_1 : decode cJ7_copyOfRange_39247 1 = .ok (.ifCond .ne 9, 3) := by decide +kernel
theorem dJ7_copyOfRange_39247_4 : decode cJ7_copyOfRange_39247 4 = .ok (.iload_n 2, 1) := by decide +kernel
theorem dJ7_copyOfRange_39247_5 : decode cJ7_copyOfRange_39247 5 = .ok (.aload_n 0, 1) := by decide +kernel
theorem dJ7_copyOfRange_39247_6 : decode cJ7_copyOfRange_39247 6 = .ok (.arraylength, 1) := by decide +kernel
theorem dJ7_copyOfRange_39247_7 : decode cJ7_copyOfRange_39247 7 = .ok (.if_icmp .eq 10, 3) := by decide +kernel
theorem dJ7_copyOfRange_39247_10 : decode cJ7_copyOfRange_39247 10 = .ok (.aload_n 0, 1) := by decide +kernel
theorem dJ7_copyOfRange_39247_11 : decode cJ7_copyOfRange_39247 11 = .ok (.iload_n 1, 1) := by decide +kernel
theorem dJ7_copyOfRange_39247_12 : decode cJ7_copyOfRange_39247 12 = .ok (.iload_n 2, 1) := by decide +kernel
theorem dJ7_copyOfRange_39247_13 : decode cJ7_copyOfRange_39247 13 = .ok (.invokestatic 339, 3) := by decide +kernel
theorem dJ7_copyOfRange_39247_16 : decode cJ7_copyOfRange_39247 16 = .ok (.areturn, 1) := by decide +kernel
theorem dJ7_copyOfRange_39247_17 : decode cJ7_copyOfRange_39247 17 = .ok (.aload_n 0, 1) := by decide +kernel
theorem dJ7_copyOfRange_39247_18 : decode cJ7_copyOfRange_39247 18 = .ok (.invokevirtual 310, 3) := by decide +kernel
theorem dJ7_copyOfRange_39247_21 : decode cJ7_copyOfRange_39247 21 = .ok (.checkcast 311, 3) := by decide +kernel
theorem dJ7_copyOfRange_39247_24 : decode cJ7_copyOfRange_39247 24 = .ok (.areturn, 1) := by decide +kernel
set_option maxHeartbeats 4000000 in
set_option maxRecDepth 100000 in
theorem c_sb_rng0 (l : Launch) (hfl : l.stackTraces = false) (ev : LEv) (D : va_G) (g : Nat → ClassId) (vb nb mb : Nat) (fb : Nat → Int32) (hf : sb_Fit fb) (he : nb = mb) (h2 : mb ≤ 34) : MO l yJ7_copyOfRange_39247 (Cond.code yJ7_copyOfRange_39247 cJ7_copyOfRange_39247 3 (some (.array .byte))) { frames := 2, cells := 1, slots := 34, locals := 64 } (KF ev) D g [.ref vb, .int (0 : Int32), .int (nI nb)] [(vb, .inl (g 5, mb, .inl fb))] (fun a : Nat × (Nat → Int32) => ∀ i, i < nb → a.2 i = fb i) (fun a => some (.ref a.1)) (fun a => [(a.1, .inl (g 5, nb, .inl a.2)), (vb, .inl (g 5, mb, .inl fb))]) 1 34 := by
  subst he
  refine z_o_start (by decide) (Nat.le_of_ble_eq_true rfl) ?_
  intro p e s m args below meth c Q A X hr hin hK hA hQ
  refine z_lv (lv' := [(0, .ref vb), (1, .int (0 : Int32)), (2, .int (nI nb))]) rfl ?_
  refine z_iload_n X 1 dJ7_copyOfRange_39247_0 rfl rfl ?_
  refine z_if_ne (F1 := some ()) (F2 := some ()) (o := ()) X 10 dJ7_copyOfRange_39247_1 (by decide) (by unfold brn; split <;> rfl) (fun _ _ => ?_) (fun hh _ => absurd rfl hh)
  refine z_iload_n X 2 dJ7_copyOfRange_39247_4 rfl rfl ?_
  refine z_aload_n X 0 dJ7_copyOfRange_39247_5 rfl rfl ?_
  refine z_alen (q0 := 0) (v := nI nb) X IW_P 5 dJ7_copyOfRange_39247_6 rfl rfl rfl ?_
  refine z_icmp_eq (F1 := some ()) (F2 := some ()) (o := ()) X 17 dJ7_copyOfRange_39247_7 (by decide) (by unfold brn; split <;> rfl) (fun _ _ => ?_) (fun hh _ => absurd rfl hh)
  refine z_aload_n X 0 dJ7_copyOfRange_39247_17 rfl rfl ?_
  refine z_clone (q0 := 0) X hA rfl hf (Nat.le_of_ble_eq_true rfl) (Nat.le_of_ble_eq_true rfl) (Nat.le_of_ble_eq_true rfl) (by show 0 + nb ≤ 34; omega) dJ7_copyOfRange_39247_18 (fun a5 => ?_)
  refine z_perm (ws' := [(a5, .inl (g 5, nb, .inl fb)), (vb, .inl (g 5, nb, .inl fb))]) List.perm_append_comm ?_
  refine z_castB (q0 := 0) X rfl dJ7_copyOfRange_39247_21 ?_
  exact z_oaret X hQ (Nat.le_of_ble_eq_true rfl) (by show 0 + nb ≤ 34; omega) hr (Or.inr ⟨_, rfl⟩) dJ7_copyOfRange_39247_24 (a5, fb) (fun _ _ => rfl) rfl (List.Perm.refl _)

set_option maxHeartbeats 4000000 in
set_option maxRecDepth 100000 in
theorem c_sb_rng1 (l : Launch) (hfl : l.stackTraces = false) (ev : LEv) (D : va_G) (g : Nat → ClassId) (vb nb mb : Nat) (fb : Nat → Int32) (hf : sb_Fit fb) (he : nb < mb) (h2 : mb ≤ 34) : MO l yJ7_copyOfRange_39247 (Cond.code yJ7_copyOfRange_39247 cJ7_copyOfRange_39247 3 (some (.array .byte))) { frames := 2, cells := 1, slots := 34, locals := 64 } (KF ev) D g [.ref vb, .int (0 : Int32), .int (nI nb)] [(vb, .inl (g 5, mb, .inl fb))] (fun a : Nat × (Nat → Int32) => ∀ i, i < nb → a.2 i = fb i) (fun a => some (.ref a.1)) (fun a => [(a.1, .inl (g 5, nb, .inl a.2)), (vb, .inl (g 5, mb, .inl fb))]) 1 34 := by
  refine z_o_start (by decide) (Nat.le_of_ble_eq_true rfl) ?_
  intro p e s m args below meth c Q A X hr hin hK hA hQ
  refine z_lv (lv' := [(0, .ref vb), (1, .int (0 : Int32)), (2, .int (nI nb))]) rfl ?_
  refine z_iload_n X 1 dJ7_copyOfRange_39247_0 rfl rfl ?_
  refine z_if_ne (F1 := some ()) (F2 := some ()) (o := ()) X 10 dJ7_copyOfRange_39247_1 (by decide) (by unfold brn; split <;> rfl) (fun _ _ => ?_) (fun hh _ => absurd rfl hh)
  refine z_iload_n X 2 dJ7_copyOfRange_39247_4 rfl rfl ?_
  refine z_aload_n X 0 dJ7_copyOfRange_39247_5 rfl rfl ?_
  refine z_alen (q0 := 0) (v := nI mb) X IW_P 5 dJ7_copyOfRange_39247_6 rfl rfl rfl ?_
  refine z_icmp_eq (F1 := some ()) (F2 := some ()) (o := ()) X 17 dJ7_copyOfRange_39247_7 (by decide) (by unfold brn; split <;> rfl) (fun hh _ => absurd hh (fun z9 => by have := (nI_eq (by omega) (by omega)).mp z9; omega)) (fun _ _ => ?_)
  refine z_aload_n X 0 dJ7_copyOfRange_39247_10 rfl rfl ?_
  refine z_iload_n X 1 dJ7_copyOfRange_39247_11 rfl rfl ?_
  refine z_iload_n X 2 dJ7_copyOfRange_39247_12 rfl rfl ?_
  refine z_oS (rest := []) (wr := []) X (KF_ok ev) (kc_of (KF_ok ev) (fun _ _ _ q => q) hK hA (pm_bkc (wr := []) (perm_of (n := 1) (E := [(vb, .inl (g 5, mb, .inl fb))]) (wc := [(vb, .inl (g 5, mb, .inl fb))]) (wr := []) [0] [] rfl rfl rfl (by decide +kernel)))) hA k_J7_copyOfRangeByte_39247 (c_sb_rngB l hfl ev D g vb mb nb fb hf (by omega) h2) ql_J7_J7_copyOfRangeByte_39247 dJ7_copyOfRange_39247_13 (perm_of (n := 1) (E := [(vb, .inl (g 5, mb, .inl fb))]) (wc := [(vb, .inl (g 5, mb, .inl fb))]) (wr := []) [0] [] rfl rfl rfl (by decide +kernel)) rfl rfl ⟨Nat.le_of_ble_eq_true rfl, Nat.le_of_ble_eq_true rfl, rfl, rfl, Nat.le_of_ble_eq_true rfl, Nat.le_of_ble_eq_true rfl⟩ (Nat.le_of_ble_eq_true rfl) (fun a ha => ?_)
  refine z_perm (ws' := [(a, .inl (g 5, nb, .inl (va_cpy fb (fun _ => 0) 0 0 nb))), (vb, .inl (g 5, mb, .inl fb))]) (List.Perm.refl _) ?_
  exact z_oaret X hQ (Nat.le_of_ble_eq_true rfl) (Nat.le_of_ble_eq_true rfl) hr (Or.inr ⟨_, rfl⟩) dJ7_copyOfRange_39247_16 (a, va_cpy fb (fun _ => 0) 0 0 nb) (fun i hi => (show va_cpy fb (fun _ => 0) 0 0 nb i = fb i from sb_cpy0 hi)) rfl (List.Perm.refl _)

theorem c_sb_rng (l : Launch) (hfl : l.stackTraces = false) (ev : LEv) (D : va_G) (g : Nat → ClassId) (vb nb mb : Nat) (fb : Nat → Int32) (hf : sb_Fit fb) (h1 : nb ≤ mb) (h2 : mb ≤ 34) : MO l yJ7_copyOfRange_39247 (Cond.code yJ7_copyOfRange_39247 cJ7_copyOfRange_39247 3 (some (.array .byte))) { frames := 2, cells := 1, slots := 34, locals := 64 } (KF ev) D g [.ref vb, .int (0 : Int32), .int (nI nb)] [(vb, .inl (g 5, mb, .inl fb))] (fun a : Nat × (Nat → Int32) => ∀ i, i < nb → a.2 i = fb i) (fun a => some (.ref a.1)) (fun a => [(a.1, .inl (g 5, nb, .inl a.2)), (vb, .inl (g 5, mb, .inl fb))]) 1 34 := by
  by_cases he : nb = mb
  · exact c_sb_rng0 l hfl ev D g vb nb mb fb hf he h2
  · exact c_sb_rng1 l hfl ev D g vb nb mb fb hf (by omega) h2
