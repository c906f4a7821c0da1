def F_L_law (L : Nat) (xs : Nat → Int32) : Option (Int32) :=
  bnd (F_L_drawn L xs (fun _ => 0)) (fun o1 => bnd (F_L_slept o1.1) (fun o4 => brn (o4 = 0) (none) (bnd (F_L_rung L xs o1.1) (fun o7 => brn (o7 = 0) (none) (bnd (F_L_looked o1.2 o1.1) (fun o10 => brn (o10.1 = 0) (none) (bnd (F_L_gone L xs o1.2 o10.2) (fun o13 => brn (o13.1 = 0) (none) (bnd (F_L_lines o1.2 o13.2) (fun o16 => brn (o16.1 = 0) (none) (bnd (F_L_undone L xs o16.2) (fun o19 => brn (o19.1 = 0) (none) (some ((1 : Int32)))))))))))))))

theorem dL_law_0 : decode cL_law 0 = .ok (.bipush 64, 2) := by decide +kernel
theorem dL_law_2 : decode cL_law 2 = .ok (.newarray .boolean, 2) := by decide +kernel
theorem dL_law_4 : decode cL_law 4 = .ok (.astore_n 1, 1) := by decide +kernel
theorem dL_law_5 : decode cL_law 5 = .ok (.aload_n 0, 1) := by decide +kernel
theorem dL_law_6 : decode cL_law 6 = .ok (.aload_n 1, 1) := by decide +kernel
theorem dL_law_7 : decode cL_law 7 = .ok (.invokestatic 184, 3) := by decide +kernel
theorem dL_law_10 : decode cL_law 10 = .ok (.astore_n 2, 1) := by decide +kernel
theorem dL_law_11 : decode cL_law 11 = .ok (.aload_n 2, 1) := by decide +kernel
theorem dL_law_12 : decode cL_law 12 = .ok (.ifnull 55, 3) := by decide +kernel
theorem dL_law_15 : decode cL_law 15 = .ok (.aload_n 2, 1) := by decide +kernel
theorem dL_law_16 : decode cL_law 16 = .ok (.invokestatic 188, 3) := by decide +kernel
theorem dL_law_19 : decode cL_law 19 = .ok (.ifCond .eq 48, 3) := by decide +kernel
theorem dL_law_22 : decode cL_law 22 = .ok (.aload_n 0, 1) := by decide +kernel
theorem dL_law_23 : decode cL_law 23 = .ok (.aload_n 2, 1) := by decide +kernel
theorem dL_law_24 : decode cL_law 24 = .ok (.invokestatic 192, 3) := by decide +kernel
theorem dL_law_27 : decode cL_law 27 = .ok (.ifCond .eq 40, 3) := by decide +kernel
theorem dL_law_30 : decode cL_law 30 = .ok (.aload_n 2, 1) := by decide +kernel
theorem dL_law_31 : decode cL_law 31 = .ok (.aload_n 1, 1) := by decide +kernel
theorem dL_law_32 : decode cL_law 32 = .ok (.invokestatic 196, 3) := by decide +kernel
theorem dL_law_35 : decode cL_law 35 = .ok (.ifCond .eq 32, 3) := by decide +kernel
theorem dL_law_38 : decode cL_law 38 = .ok (.aload_n 0, 1) := by decide +kernel
theorem dL_law_39 : decode cL_law 39 = .ok (.aload_n 2, 1) := by decide +kernel
theorem dL_law_40 : decode cL_law 40 = .ok (.aload_n 1, 1) := by decide +kernel
theorem dL_law_41 : decode cL_law 41 = .ok (.invokestatic 200, 3) := by decide +kernel
theorem dL_law_44 : decode cL_law 44 = .ok (.ifCond .eq 23, 3) := by decide +kernel
theorem dL_law_47 : decode cL_law 47 = .ok (.aload_n 2, 1) := by decide +kernel
theorem dL_law_48 : decode cL_law 48 = .ok (.aload_n 1, 1) := by decide +kernel
theorem dL_law_49 : decode cL_law 49 = .ok (.invokestatic 204, 3) := by decide +kernel
theorem dL_law_52 : decode cL_law 52 = .ok (.ifCond .eq 15, 3) := by decide +kernel
theorem dL_law_55 : decode cL_law 55 = .ok (.aload_n 0, 1) := by decide +kernel
theorem dL_law_56 : decode cL_law 56 = .ok (.aload_n 2, 1) := by decide +kernel
theorem dL_law_57 : decode cL_law 57 = .ok (.invokestatic 207, 3) := by decide +kernel
theorem dL_law_60 : decode cL_law 60 = .ok (.ifCond .eq 7, 3) := by decide +kernel
theorem dL_law_63 : decode cL_law 63 = .ok (.iconst 1, 1) := by decide +kernel
theorem dL_law_64 : decode cL_law 64 = .ok (.goto 4, 3) := by decide +kernel
theorem dL_law_67 : decode cL_law 67 = .ok (.iconst 0, 1) := by decide +kernel
theorem dL_law_68 : decode cL_law 68 = .ok (.ireturn, 1) := by decide +kernel
set_option maxHeartbeats 4000000 in
set_option maxRecDepth 100000 in
theorem lw_body {p : Program} {l : Launch} {e : Env} {s : State} {m : MethodId} {args : Array Value} {below : List Frame} {meth : Method} {c : Code} {Q : State → Prop} {D : va_G} {g : Nat → ClassId} {A : Nat → Prop} {ev : LEv} (hfl : l.stackTraces = false) (X : CX p s m args meth c cL_law 3 RL D g) (hK : KF ev A s s.heap) (hA : ∀ q, s.heap.size ≤ q → A q) (o : Int32) (h : F_L_law ev.L ev.xs = some o) (kend : ∀ ws : va_W, Z p l e room_1 s m args below meth c Q 3 21492 139702 (IW D A s ws) 68 [] [.int o]) : Z p l e room_1 s m args below meth c Q 3 0 0 (IW D A s []) 0 [(0, .ref ev.b)] [] := by
  refine z_lv (lv' := [(0, .ref ev.b)]) rfl ?_
  refine z_bipush X (64 : Int32) dL_law_0 (by decide) ?_
  refine z_newa (atype := .boolean) (a0 := (64, .inl (fun _ => 0))) (ty := .boolean) 3 X hA qa_boolean rfl rfl (fun _ _ h => h) (fun _ => rfl) (by decide) (by decide) (Nat.le_of_ble_eq_true rfl) (Nat.le_trans (m := 21492) (by first | exact Nat.le_of_ble_eq_true rfl | omega) (Nat.le_of_ble_eq_true rfl)) (Nat.le_trans (m := 139702) (by first | exact Nat.le_of_ble_eq_true rfl | omega) (Nat.le_of_ble_eq_true rfl)) dL_law_2 (fun q_n2 => ?_)
  refine z_perm (ws' := [(q_n2, .inl (g 3, 64, .inl (fun _ => 0)))]) List.perm_append_comm ?_
  refine z_astore_n X [(1, .ref q_n2), (0, .ref ev.b)] dL_law_4 rfl (by decide) rfl ?_
  refine z_aload_n X 1 dL_law_5 rfl rfl ?_
  refine z_aload_n X 0 dL_law_6 rfl rfl ?_
  obtain ⟨o1, e2, h⟩ := bnd_p h
  refine z_oS (rest := []) (wr := []) X (KF_ok ev) (kc_of (KF_ok ev) (fun _ _ _ q => q) hK hA (pm_bkc (wr := []) (perm_of (n := 1) (E := [(q_n2, .inl (g 3, 64, .inl (fun _ => 0)))]) (wc := [(q_n2, .inl (g 3, 64, .inl (fun _ => 0)))]) (wr := []) [0] [] rfl rfl rfl (by decide +kernel)))) hA k_L_drawn (c_L_drawn l hfl ev D g q_n2 (fun _ => 0) o1 e2) ql_L_L_drawn dL_law_7 (perm_of (n := 1) (E := [(q_n2, .inl (g 3, 64, .inl (fun _ => 0)))]) (wc := [(q_n2, .inl (g 3, 64, .inl (fun _ => 0)))]) (wr := []) [0] [] rfl rfl rfl (by decide +kernel)) rfl rfl ⟨Nat.le_of_ble_eq_true rfl, Nat.le_of_ble_eq_true rfl, rfl, rfl, (Nat.le_trans (m := 21492) (by first | exact Nat.le_of_ble_eq_true rfl | omega) (Nat.le_of_ble_eq_true rfl)), (Nat.le_trans (m := 139702) (by first | exact Nat.le_of_ble_eq_true rfl | omega) (Nat.le_of_ble_eq_true rfl))⟩ (Nat.le_of_ble_eq_true rfl) (fun z _ => ?_)
  obtain ⟨ax, ad⟩ := z
  refine z_perm (ws' := ([(q_n2, .inl (g 3, 64, .inl o1.2))] ++ OW g ax ad o1.1)) (List.Perm.refl _) ?_
  refine z_astore_n X [(2, .ref (ax 0)), (1, .ref q_n2), (0, .ref ev.b)] dL_law_10 rfl (by decide) rfl ?_
  refine z_aload_n X 0 dL_law_11 rfl rfl ?_
  refine z_ifnull X dL_law_12 ?_
  refine z_aload_n X 0 dL_law_15 rfl rfl ?_
  obtain ⟨o4, e5, h⟩ := bnd_p h
  have f6 := bk_appP (X := OW g ax ad o1.1) (X' := OW g ax ad o1.1) (perm_of (n := 1) (E := [(q_n2, .inl (g 3, 64, .inl o1.2))]) (wc := []) (wr := [(q_n2, .inl (g 3, 64, .inl o1.2))]) [] [0] rfl rfl rfl (by decide +kernel)) (perm_of (n := 1) (E := [(q_n2, .inl (g 3, 64, .inl o1.2))]) (wc := []) (wr := [(q_n2, .inl (g 3, 64, .inl o1.2))]) [] [0] rfl rfl rfl (by decide +kernel)) rfl OW_fst
  refine z_gS (rest := []) (ws' := ([(q_n2, .inl (g 3, 64, .inl o1.2))] ++ OW g ax ad o1.1)) X (KF_ok ev) (kc_of (KF_ok ev) (fun _ _ _ q => q) hK hA f6.1) hA k_L_slept (c_L_slept l hfl ev D g ad ax o1.1 o4 e5) ql_L_L_slept dL_law_16 f6.1 f6.2 rfl rfl ⟨Nat.le_of_ble_eq_true rfl, Nat.le_of_ble_eq_true rfl, rfl, rfl, (Nat.le_trans (m := 21492) (by first | exact Nat.le_of_ble_eq_true rfl | omega) (Nat.le_of_ble_eq_true rfl)), (Nat.le_trans (m := 139702) (by first | exact Nat.le_of_ble_eq_true rfl | omega) (Nat.le_of_ble_eq_true rfl))⟩ (Nat.le_of_ble_eq_true rfl) ?_
  refine z_if_eq X 67 dL_law_19 (by decide) h (fun _ h => ?_) (fun _ h => ?_)
  · cases h
  · refine z_aload_n X 2 dL_law_22 rfl rfl ?_
    refine z_aload_n X 0 dL_law_23 rfl rfl ?_
    obtain ⟨o7, e8, h⟩ := bnd_p h
    have f9 := bk_appP (X := OW g ax ad o1.1) (X' := OW g ax ad o1.1) (perm_of (n := 1) (E := [(q_n2, .inl (g 3, 64, .inl o1.2))]) (wc := []) (wr := [(q_n2, .inl (g 3, 64, .inl o1.2))]) [] [0] rfl rfl rfl (by decide +kernel)) (perm_of (n := 1) (E := [(q_n2, .inl (g 3, 64, .inl o1.2))]) (wc := []) (wr := [(q_n2, .inl (g 3, 64, .inl o1.2))]) [] [0] rfl rfl rfl (by decide +kernel)) rfl OW_fst
    refine z_gS (rest := []) (ws' := ([(q_n2, .inl (g 3, 64, .inl o1.2))] ++ OW g ax ad o1.1)) X (KF_ok ev) (kc_of (KF_ok ev) (fun _ _ _ q => q) hK hA f9.1) hA k_L_rung (c_L_rung l hfl ev D g ad ax o1.1 o7 e8) ql_L_L_rung dL_law_24 f9.1 f9.2 rfl rfl ⟨Nat.le_of_ble_eq_true rfl, Nat.le_of_ble_eq_true rfl, rfl, rfl, (Nat.le_trans (m := 21492) (by first | exact Nat.le_of_ble_eq_true rfl | omega) (Nat.le_of_ble_eq_true rfl)), (Nat.le_trans (m := 139702) (by first | exact Nat.le_of_ble_eq_true rfl | omega) (Nat.le_of_ble_eq_true rfl))⟩ (Nat.le_of_ble_eq_true rfl) ?_
    refine z_if_eq X 67 dL_law_27 (by decide) h (fun _ h => ?_) (fun _ h => ?_)
    · cases h
    · refine z_aload_n X 0 dL_law_30 rfl rfl ?_
      refine z_aload_n X 1 dL_law_31 rfl rfl ?_
      obtain ⟨o10, e11, h⟩ := bnd_p h
      have f12 := bk_appP (X := OW g ax ad o1.1) (X' := OW g ax ad o10.2) (perm_of (n := 1) (E := [(q_n2, .inl (g 3, 64, .inl o1.2))]) (wc := [(q_n2, .inl (g 3, 64, .inl o1.2))]) (wr := []) [0] [] rfl rfl rfl (by decide +kernel)) (perm_of (n := 1) (E := [(q_n2, .inl (g 3, 64, .inl o1.2))]) (wc := [(q_n2, .inl (g 3, 64, .inl o1.2))]) (wr := []) [0] [] rfl rfl rfl (by decide +kernel)) rfl OW_fst
      refine z_gS (rest := []) (ws' := ([(q_n2, .inl (g 3, 64, .inl o1.2))] ++ OW g ax ad o10.2)) X (KF_ok ev) (kc_of (KF_ok ev) (fun _ _ _ q => q) hK hA f12.1) hA k_L_looked (c_L_looked l hfl ev D g ad ax q_n2 o1.1 o1.2 o10 e11) ql_L_L_looked dL_law_32 f12.1 f12.2 rfl rfl ⟨Nat.le_of_ble_eq_true rfl, Nat.le_of_ble_eq_true rfl, rfl, rfl, (Nat.le_trans (m := 21492) (by first | exact Nat.le_of_ble_eq_true rfl | omega) (Nat.le_of_ble_eq_true rfl)), (Nat.le_trans (m := 139702) (by first | exact Nat.le_of_ble_eq_true rfl | omega) (Nat.le_of_ble_eq_true rfl))⟩ (Nat.le_of_ble_eq_true rfl) ?_
      refine z_if_eq X 67 dL_law_35 (by decide) h (fun _ h => ?_) (fun _ h => ?_)
      · cases h
      · refine z_aload_n X 2 dL_law_38 rfl rfl ?_
        refine z_aload_n X 0 dL_law_39 rfl rfl ?_
        refine z_aload_n X 1 dL_law_40 rfl rfl ?_
        obtain ⟨o13, e14, h⟩ := bnd_p h
        have f15 := bk_appP (X := OW g ax ad o10.2) (X' := OW g ax ad o13.2) (perm_of (n := 1) (E := [(q_n2, .inl (g 3, 64, .inl o1.2))]) (wc := [(q_n2, .inl (g 3, 64, .inl o1.2))]) (wr := []) [0] [] rfl rfl rfl (by decide +kernel)) (perm_of (n := 1) (E := [(q_n2, .inl (g 3, 64, .inl o1.2))]) (wc := [(q_n2, .inl (g 3, 64, .inl o1.2))]) (wr := []) [0] [] rfl rfl rfl (by decide +kernel)) rfl OW_fst
        refine z_gS (rest := []) (ws' := ([(q_n2, .inl (g 3, 64, .inl o1.2))] ++ OW g ax ad o13.2)) X (KF_ok ev) (kc_of (KF_ok ev) (fun _ _ _ q => q) hK hA f15.1) hA k_L_gone (c_L_gone l hfl ev D g ad ax q_n2 o10.2 o1.2 o13 e14) ql_L_L_gone dL_law_41 f15.1 f15.2 rfl rfl ⟨Nat.le_of_ble_eq_true rfl, Nat.le_of_ble_eq_true rfl, rfl, rfl, (Nat.le_trans (m := 21492) (by first | exact Nat.le_of_ble_eq_true rfl | omega) (Nat.le_of_ble_eq_true rfl)), (Nat.le_trans (m := 139702) (by first | exact Nat.le_of_ble_eq_true rfl | omega) (Nat.le_of_ble_eq_true rfl))⟩ (Nat.le_of_ble_eq_true rfl) ?_
        refine z_if_eq X 67 dL_law_44 (by decide) h (fun _ h => ?_) (fun _ h => ?_)
        · cases h
        · refine z_aload_n X 0 dL_law_47 rfl rfl ?_
          refine z_aload_n X 1 dL_law_48 rfl rfl ?_
          obtain ⟨o16, e17, h⟩ := bnd_p h
          have f18 := bk_appP (X := OW g ax ad o13.2) (X' := OW g ax ad o16.2) (perm_of (n := 1) (E := [(q_n2, .inl (g 3, 64, .inl o1.2))]) (wc := [(q_n2, .inl (g 3, 64, .inl o1.2))]) (wr := []) [0] [] rfl rfl rfl (by decide +kernel)) (perm_of (n := 1) (E := [(q_n2, .inl (g 3, 64, .inl o1.2))]) (wc := [(q_n2, .inl (g 3, 64, .inl o1.2))]) (wr := []) [0] [] rfl rfl rfl (by decide +kernel)) rfl OW_fst
          refine z_gS (rest := []) (ws' := ([(q_n2, .inl (g 3, 64, .inl o1.2))] ++ OW g ax ad o16.2)) X (KF_ok ev) (kc_of (KF_ok ev) (fun _ _ _ q => q) hK hA f18.1) hA k_L_lines (c_L_lines l hfl ev D g ad ax q_n2 o13.2 o1.2 o16 e17) ql_L_L_lines dL_law_49 f18.1 f18.2 rfl rfl ⟨Nat.le_of_ble_eq_true rfl, Nat.le_of_ble_eq_true rfl, rfl, rfl, (Nat.le_trans (m := 21492) (by first | exact Nat.le_of_ble_eq_true rfl | omega) (Nat.le_of_ble_eq_true rfl)), (Nat.le_trans (m := 139702) (by first | exact Nat.le_of_ble_eq_true rfl | omega) (Nat.le_of_ble_eq_true rfl))⟩ (Nat.le_of_ble_eq_true rfl) ?_
          refine z_if_eq X 67 dL_law_52 (by decide) h (fun _ h => ?_) (fun _ h => ?_)
          · cases h
          · refine z_aload_n X 2 dL_law_55 rfl rfl ?_
            refine z_aload_n X 0 dL_law_56 rfl rfl ?_
            obtain ⟨o19, e20, h⟩ := bnd_p h
            have f21 := bk_appP (X := OW g ax ad o16.2) (X' := OW g ax ad o19.2) (perm_of (n := 1) (E := [(q_n2, .inl (g 3, 64, .inl o1.2))]) (wc := []) (wr := [(q_n2, .inl (g 3, 64, .inl o1.2))]) [] [0] rfl rfl rfl (by decide +kernel)) (perm_of (n := 1) (E := [(q_n2, .inl (g 3, 64, .inl o1.2))]) (wc := []) (wr := [(q_n2, .inl (g 3, 64, .inl o1.2))]) [] [0] rfl rfl rfl (by decide +kernel)) rfl OW_fst
            refine z_gS (rest := []) (ws' := ([(q_n2, .inl (g 3, 64, .inl o1.2))] ++ OW g ax ad o19.2)) X (KF_ok ev) (kc_of (KF_ok ev) (fun _ _ _ q => q) hK hA f21.1) hA k_L_undone (c_L_undone l hfl ev D g ad ax o16.2 o19 e20) ql_L_L_undone dL_law_57 f21.1 f21.2 rfl rfl ⟨Nat.le_of_ble_eq_true rfl, Nat.le_of_ble_eq_true rfl, rfl, rfl, (Nat.le_trans (m := 21492) (by first | exact Nat.le_of_ble_eq_true rfl | omega) (Nat.le_of_ble_eq_true rfl)), (Nat.le_trans (m := 139702) (by first | exact Nat.le_of_ble_eq_true rfl | omega) (Nat.le_of_ble_eq_true rfl))⟩ (Nat.le_of_ble_eq_true rfl) ?_
            refine z_if_eq X 67 dL_law_60 (by decide) h (fun _ h => ?_) (fun _ h => ?_)
            · cases h
            · refine z_iconst X (1 : Int32) dL_law_63 (by decide) ?_
              refine z_goto X 68 dL_law_64 (by decide) ?_
              cases h
              refine z_sub [] rfl ?_
              exact z_widen (Nat.le_of_ble_eq_true rfl) (Nat.le_of_ble_eq_true rfl) (kend _)
