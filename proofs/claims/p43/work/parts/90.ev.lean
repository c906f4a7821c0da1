/-! ===== what the Statement gives of the start ===== -/
theorem st_arr {s : State} {args : Array Value} {ty : FieldType} (h : (Cond.arrayClass ty).before args s = true) : ∃ cA : ClassId, ArrOfT s cA ty ∧ s.vm.findClass ("[" ++ ty.toString) = some cA := by
  obtain ⟨c, k, comp, h1, h2, h3⟩ := Cond.arrayClass_spec (args := args) (first := s) (o := none) (s := s) (idx := []) h
  exact ⟨c, fun n z => ⟨fun k h => (by cases h), k, h2, comp, h3⟩, h1⟩
theorem st_town {s : State} (h : va_AO "BellObservatory$Town" s) : ∃ cA : ClassId, ArrOfT s cA (.object "BellObservatory$Town") ∧ va_RA s cA (.object "BellObservatory$Town") := by
  obtain ⟨comp, c, k, h1, h2, h3, h4, h5⟩ := Cond.arrayOver_spec h
  exact ⟨c, fun n z => ⟨fun k h => (by cases h), k, h3, comp, h4⟩, k, comp, h3, h4, h1, h5⟩
theorem qo_Town : Cond.arrayOver (.object "BellObservatory$Town") ∈ lw_tbl := by decide +kernel
def pickD (l : List ClassId) (k : Nat) : ClassId := l.getD k 0
def pickI (l : List (Nat → Nat)) (k : Nat) : Nat → Nat := l.getD k id
theorem st_NW {s : State} {args : Array Value} (hts : ∀ w ∈ lw_tbl, w.before args s = true) : NW s := by
  intro w hw
  have h := hts w (lw_nst_in w hw)
  rcases nst_keeps w hw with (⟨a, i, b, n, d, z, rfl⟩ | ⟨a, i, x, z, rfl⟩) | ⟨x, rfl⟩ | ⟨a, b, rfl⟩ <;> exact va_Nw.of rfl h
theorem st_KK {s : State} {args : Array Value} (hts : ∀ w ∈ lw_tbl, w.before args s = true) : ∃ (D : va_G) (g : Nat → ClassId), KK D g s := by
  have hq : ∀ w ∈ lw_all, w.before args s = true := fun w h => hts w (lw_in w h)
  obtain ⟨c0, i0, k0⟩ := u_known (C := RJ0) (T := TJ0) (N := 4) hq iw_J0 (hq _ qt_J0)
  obtain ⟨c1, i1, k1⟩ := u_known (C := RJx00060) (T := TJx00060) (N := 6) hq iw_Jx00060 (hq _ qt_Jx00060)
  obtain ⟨c2, i2, k2⟩ := u_known (C := RX1) (T := TX1) (N := 4) hq iw_X1 (hq _ qt_X1)
  obtain ⟨c3, i3, k3⟩ := u_known (C := RX2) (T := TX2) (N := 6) hq iw_X2 (hq _ qt_X2)
  obtain ⟨c4, i4, k4⟩ := u_known (C := RX3) (T := TX3) (N := 7) hq iw_X3 (hq _ qt_X3)
  obtain ⟨c5, i5, k5⟩ := u_known (C := RX4) (T := TX4) (N := 3) hq iw_X4 (hq _ qt_X4)
  obtain ⟨c6, i6, k6⟩ := u_known (C := RX5) (T := TX5) (N := 3) hq iw_X5 (hq _ qt_X5)
  obtain ⟨c7, i7, k7⟩ := u_known (C := RX6) (T := TX6) (N := 2) hq iw_X6 (hq _ qt_X6)
  obtain ⟨c8, i8, k8⟩ := u_known (C := RX8) (T := TX8) (N := 2) hq iw_X8 (hq _ qt_X8)
  obtain ⟨c9, i9, k9⟩ := u_known (C := RX9) (T := TX9) (N := 11) hq iw_X9 (hq _ qt_X9)
  obtain ⟨c10, i10, k10⟩ := u_known (C := RX10) (T := TX10) (N := 6) hq iw_X10 (hq _ qt_X10)
  obtain ⟨c11, i11, k11⟩ := u_known (C := RX11) (T := TX11) (N := 9) hq iw_X11 (hq _ qt_X11)
  obtain ⟨c12, i12, k12⟩ := u_known (C := RJ4) (T := TJ4) (N := 4) hq iw_J4 (hq _ qt_J4)
  obtain ⟨a0, p0, r0⟩ := st_arr (hq _ qa_int)
  obtain ⟨a1, p1, r1⟩ := st_arr (hq _ qa_char)
  obtain ⟨a2, p2, r2⟩ := st_arr (hq _ qa_long)
  obtain ⟨a3, p3, r3⟩ := st_arr (hq _ qa_boolean)
  obtain ⟨a4, p4, r4⟩ := st_town (va_AO.of (hts _ qo_Town))
  obtain ⟨a5, p5, r5⟩ := st_arr (hq _ qa_byte)
  refine ⟨(pickD [c0, c1, c2, c3, c4, c5, c6, c7, c8, c9, c10, c11, c12], pickI [i0, i1, i2, i3, i4, i5, i6, i7, i8, i9, i10, i11, i12]), pickD [a0, a1, a2, a3, a4, a5], ⟨fun k q hk => ?_, fun k q hk => ?_⟩, st_NW hts⟩
  · match k, hk with
    | 0, hk => cases hk; exact k0
    | 1, hk => cases hk; exact k1
    | 2, hk => cases hk; exact k2
    | 3, hk => cases hk; exact k3
    | 4, hk => cases hk; exact k4
    | 5, hk => cases hk; exact k5
    | 6, hk => cases hk; exact k6
    | 7, hk => cases hk; exact k7
    | 8, hk => cases hk; exact k8
    | 9, hk => cases hk; exact k9
    | 10, hk => cases hk; exact k10
    | 11, hk => cases hk; exact k11
    | 12, hk => cases hk; exact k12
    | k + 13, hk => cases hk
  · match k, hk with
    | 0, hk => cases hk; exact ⟨p0, r0⟩
    | 1, hk => cases hk; exact ⟨p1, r1⟩
    | 2, hk => cases hk; exact ⟨p2, r2⟩
    | 3, hk => cases hk; exact ⟨p3, r3⟩
    | 4, hk => cases hk; exact ⟨p4, r4⟩
    | 5, hk => cases hk; exact ⟨p5, r5⟩
    | k + 6, hk => cases hk
abbrev gvL : List Cond := flatC (Jvm.Cond.and given_1 narrow_1)
abbrev sTm (i : Nat) : Term := .string (sOwn i) (sIdx i)
theorem gv_ex : ∀ i : Nat, i < 12 → Cond.exactly (sTm i) "java/lang/String" ∈ gvL := by decide +kernel
theorem gv_co : ∀ i : Nat, i < 12 → Cond.eq (.field (sTm i) "java/lang/String" "coder" "B") (.int 0) ∈ gvL := by decide +kernel
theorem gv_ar : ∀ i : Nat, i < 12 → Cond.arrayOf (.field (sTm i) "java/lang/String" "value" "[B") .byte ∈ gvL := by decide +kernel
theorem gv_le : ∀ i : Nat, i < 12 → Cond.eq (.length (.field (sTm i) "java/lang/String" "value" "[B")) (.int (Int32.ofNat (sLen.getD i 0))) ∈ gvL := by decide +kernel
theorem gve_0 : ∀ j : Nat, j < 28 → gvL[320 + j]? = some (Cond.eq (.elem (.field (sTm 0) "java/lang/String" "value" "[B") (.int (Int32.ofNat j))) (.int ((sByt.getD 0 []).getD j 0))) := by decide +kernel
theorem gve_1 : ∀ j : Nat, j < 14 → gvL[352 + j]? = some (Cond.eq (.elem (.field (sTm 1) "java/lang/String" "value" "[B") (.int (Int32.ofNat j))) (.int ((sByt.getD 1 []).getD j 0))) := by decide +kernel
theorem gve_2 : ∀ j : Nat, j < 15 → gvL[371 + j]? = some (Cond.eq (.elem (.field (sTm 2) "java/lang/String" "value" "[B") (.int (Int32.ofNat j))) (.int ((sByt.getD 2 []).getD j 0))) := by decide +kernel
theorem gve_3 : ∀ j : Nat, j < 13 → gvL[392 + j]? = some (Cond.eq (.elem (.field (sTm 3) "java/lang/String" "value" "[B") (.int (Int32.ofNat j))) (.int ((sByt.getD 3 []).getD j 0))) := by decide +kernel
theorem gve_4 : ∀ j : Nat, j < 18 → gvL[654 + j]? = some (Cond.eq (.elem (.field (sTm 4) "java/lang/String" "value" "[B") (.int (Int32.ofNat j))) (.int ((sByt.getD 4 []).getD j 0))) := by decide +kernel
theorem gve_5 : ∀ j : Nat, j < 27 → gvL[412 + j]? = some (Cond.eq (.elem (.field (sTm 5) "java/lang/String" "value" "[B") (.int (Int32.ofNat j))) (.int ((sByt.getD 5 []).getD j 0))) := by decide +kernel
theorem gve_6 : ∀ j : Nat, j < 5 → gvL[693 + j]? = some (Cond.eq (.elem (.field (sTm 6) "java/lang/String" "value" "[B") (.int (Int32.ofNat j))) (.int ((sByt.getD 6 []).getD j 0))) := by decide +kernel
theorem gve_7 : ∀ j : Nat, j < 5 → gvL[720 + j]? = some (Cond.eq (.elem (.field (sTm 7) "java/lang/String" "value" "[B") (.int (Int32.ofNat j))) (.int ((sByt.getD 7 []).getD j 0))) := by decide +kernel
theorem gve_8 : ∀ j : Nat, j < 5 → gvL[748 + j]? = some (Cond.eq (.elem (.field (sTm 8) "java/lang/String" "value" "[B") (.int (Int32.ofNat j))) (.int ((sByt.getD 8 []).getD j 0))) := by decide +kernel
theorem gve_9 : ∀ j : Nat, j < 3 → gvL[777 + j]? = some (Cond.eq (.elem (.field (sTm 9) "java/lang/String" "value" "[B") (.int (Int32.ofNat j))) (.int ((sByt.getD 9 []).getD j 0))) := by decide +kernel
theorem gve_10 : ∀ j : Nat, j < 1 → gvL[805 + j]? = some (Cond.eq (.elem (.field (sTm 10) "java/lang/String" "value" "[B") (.int (Int32.ofNat j))) (.int ((sByt.getD 10 []).getD j 0))) := by decide +kernel
theorem gve_11 : ∀ j : Nat, j < 1 → gvL[447 + j]? = some (Cond.eq (.elem (.field (sTm 11) "java/lang/String" "value" "[B") (.int (Int32.ofNat j))) (.int ((sByt.getD 11 []).getD j 0))) := by decide +kernel
theorem gv_el : ∀ i : Nat, i < 12 → ∀ j : Nat, j < sLen.getD i 0 → Cond.eq (.elem (.field (sTm i) "java/lang/String" "value" "[B") (.int (Int32.ofNat j))) (.int ((sByt.getD i []).getD j 0)) ∈ gvL := fun i hi j hj => match i, hi, hj with
  | 0, _, hj => List.mem_of_getElem? (gve_0 j hj)
  | 1, _, hj => List.mem_of_getElem? (gve_1 j hj)
  | 2, _, hj => List.mem_of_getElem? (gve_2 j hj)
  | 3, _, hj => List.mem_of_getElem? (gve_3 j hj)
  | 4, _, hj => List.mem_of_getElem? (gve_4 j hj)
  | 5, _, hj => List.mem_of_getElem? (gve_5 j hj)
  | 6, _, hj => List.mem_of_getElem? (gve_6 j hj)
  | 7, _, hj => List.mem_of_getElem? (gve_7 j hj)
  | 8, _, hj => List.mem_of_getElem? (gve_8 j hj)
  | 9, _, hj => List.mem_of_getElem? (gve_9 j hj)
  | 10, _, hj => List.mem_of_getElem? (gve_10 j hj)
  | 11, _, hj => List.mem_of_getElem? (gve_11 j hj)
  | n + 12, hi, _ => absurd hi (by omega)
def gvP : List (Nat × Nat) := [(0, 1), (0, 2), (1, 2), (0, 3), (1, 3), (2, 3), (0, 5), (1, 5), (2, 5), (3, 5), (0, 11), (1, 11), (2, 11), (3, 11), (5, 11), (0, 4), (1, 4), (2, 4), (3, 4), (5, 4), (11, 4), (0, 6), (1, 6), (2, 6), (3, 6), (5, 6), (11, 6), (4, 6), (0, 7), (1, 7), (2, 7), (3, 7), (5, 7), (11, 7), (4, 7), (6, 7), (0, 8), (1, 8), (2, 8), (3, 8), (5, 8), (11, 8), (4, 8), (6, 8), (7, 8), (0, 9), (1, 9), (2, 9), (3, 9), (5, 9), (11, 9), (4, 9), (6, 9), (7, 9), (8, 9), (0, 10), (1, 10), (2, 10), (3, 10), (5, 10), (11, 10), (4, 10), (6, 10), (7, 10), (8, 10), (9, 10)]
theorem gvp_0_1 : Cond.not (Cond.eq (sTm 0) (sTm 1)) ∈ gvL := List.mem_of_getElem? (i := 366) (by decide +kernel)
theorem gvp_0_2 : Cond.not (Cond.eq (sTm 0) (sTm 2)) ∈ gvL := List.mem_of_getElem? (i := 386) (by decide +kernel)
theorem gvp_1_2 : Cond.not (Cond.eq (sTm 1) (sTm 2)) ∈ gvL := List.mem_of_getElem? (i := 387) (by decide +kernel)
theorem gvp_0_3 : Cond.not (Cond.eq (sTm 0) (sTm 3)) ∈ gvL := List.mem_of_getElem? (i := 405) (by decide +kernel)
theorem gvp_1_3 : Cond.not (Cond.eq (sTm 1) (sTm 3)) ∈ gvL := List.mem_of_getElem? (i := 406) (by decide +kernel)
theorem gvp_2_3 : Cond.not (Cond.eq (sTm 2) (sTm 3)) ∈ gvL := List.mem_of_getElem? (i := 407) (by decide +kernel)
theorem gvp_0_5 : Cond.not (Cond.eq (sTm 0) (sTm 5)) ∈ gvL := List.mem_of_getElem? (i := 439) (by decide +kernel)
theorem gvp_1_5 : Cond.not (Cond.eq (sTm 1) (sTm 5)) ∈ gvL := List.mem_of_getElem? (i := 440) (by decide +kernel)
theorem gvp_2_5 : Cond.not (Cond.eq (sTm 2) (sTm 5)) ∈ gvL := List.mem_of_getElem? (i := 441) (by decide +kernel)
theorem gvp_3_5 : Cond.not (Cond.eq (sTm 3) (sTm 5)) ∈ gvL := List.mem_of_getElem? (i := 442) (by decide +kernel)
theorem gvp_0_11 : Cond.not (Cond.eq (sTm 0) (sTm 11)) ∈ gvL := List.mem_of_getElem? (i := 448) (by decide +kernel)
theorem gvp_1_11 : Cond.not (Cond.eq (sTm 1) (sTm 11)) ∈ gvL := List.mem_of_getElem? (i := 449) (by decide +kernel)
theorem gvp_2_11 : Cond.not (Cond.eq (sTm 2) (sTm 11)) ∈ gvL := List.mem_of_getElem? (i := 450) (by decide +kernel)
theorem gvp_3_11 : Cond.not (Cond.eq (sTm 3) (sTm 11)) ∈ gvL := List.mem_of_getElem? (i := 451) (by decide +kernel)
theorem gvp_5_11 : Cond.not (Cond.eq (sTm 5) (sTm 11)) ∈ gvL := List.mem_of_getElem? (i := 452) (by decide +kernel)
theorem gvp_0_4 : Cond.not (Cond.eq (sTm 0) (sTm 4)) ∈ gvL := List.mem_of_getElem? (i := 672) (by decide +kernel)
theorem gvp_1_4 : Cond.not (Cond.eq (sTm 1) (sTm 4)) ∈ gvL := List.mem_of_getElem? (i := 673) (by decide +kernel)
theorem gvp_2_4 : Cond.not (Cond.eq (sTm 2) (sTm 4)) ∈ gvL := List.mem_of_getElem? (i := 674) (by decide +kernel)
theorem gvp_3_4 : Cond.not (Cond.eq (sTm 3) (sTm 4)) ∈ gvL := List.mem_of_getElem? (i := 675) (by decide +kernel)
theorem gvp_5_4 : Cond.not (Cond.eq (sTm 5) (sTm 4)) ∈ gvL := List.mem_of_getElem? (i := 676) (by decide +kernel)
theorem gvp_11_4 : Cond.not (Cond.eq (sTm 11) (sTm 4)) ∈ gvL := List.mem_of_getElem? (i := 677) (by decide +kernel)
theorem gvp_0_6 : Cond.not (Cond.eq (sTm 0) (sTm 6)) ∈ gvL := List.mem_of_getElem? (i := 698) (by decide +kernel)
theorem gvp_1_6 : Cond.not (Cond.eq (sTm 1) (sTm 6)) ∈ gvL := List.mem_of_getElem? (i := 699) (by decide +kernel)
theorem gvp_2_6 : Cond.not (Cond.eq (sTm 2) (sTm 6)) ∈ gvL := List.mem_of_getElem? (i := 700) (by decide +kernel)
theorem gvp_3_6 : Cond.not (Cond.eq (sTm 3) (sTm 6)) ∈ gvL := List.mem_of_getElem? (i := 701) (by decide +kernel)
theorem gvp_5_6 : Cond.not (Cond.eq (sTm 5) (sTm 6)) ∈ gvL := List.mem_of_getElem? (i := 702) (by decide +kernel)
theorem gvp_11_6 : Cond.not (Cond.eq (sTm 11) (sTm 6)) ∈ gvL := List.mem_of_getElem? (i := 703) (by decide +kernel)
theorem gvp_4_6 : Cond.not (Cond.eq (sTm 4) (sTm 6)) ∈ gvL := List.mem_of_getElem? (i := 715) (by decide +kernel)
theorem gvp_0_7 : Cond.not (Cond.eq (sTm 0) (sTm 7)) ∈ gvL := List.mem_of_getElem? (i := 725) (by decide +kernel)
theorem gvp_1_7 : Cond.not (Cond.eq (sTm 1) (sTm 7)) ∈ gvL := List.mem_of_getElem? (i := 726) (by decide +kernel)
theorem gvp_2_7 : Cond.not (Cond.eq (sTm 2) (sTm 7)) ∈ gvL := List.mem_of_getElem? (i := 727) (by decide +kernel)
theorem gvp_3_7 : Cond.not (Cond.eq (sTm 3) (sTm 7)) ∈ gvL := List.mem_of_getElem? (i := 728) (by decide +kernel)
theorem gvp_5_7 : Cond.not (Cond.eq (sTm 5) (sTm 7)) ∈ gvL := List.mem_of_getElem? (i := 729) (by decide +kernel)
theorem gvp_11_7 : Cond.not (Cond.eq (sTm 11) (sTm 7)) ∈ gvL := List.mem_of_getElem? (i := 730) (by decide +kernel)
theorem gvp_4_7 : Cond.not (Cond.eq (sTm 4) (sTm 7)) ∈ gvL := List.mem_of_getElem? (i := 742) (by decide +kernel)
theorem gvp_6_7 : Cond.not (Cond.eq (sTm 6) (sTm 7)) ∈ gvL := List.mem_of_getElem? (i := 743) (by decide +kernel)
theorem gvp_0_8 : Cond.not (Cond.eq (sTm 0) (sTm 8)) ∈ gvL := List.mem_of_getElem? (i := 753) (by decide +kernel)
theorem gvp_1_8 : Cond.not (Cond.eq (sTm 1) (sTm 8)) ∈ gvL := List.mem_of_getElem? (i := 754) (by decide +kernel)
theorem gvp_2_8 : Cond.not (Cond.eq (sTm 2) (sTm 8)) ∈ gvL := List.mem_of_getElem? (i := 755) (by decide +kernel)
theorem gvp_3_8 : Cond.not (Cond.eq (sTm 3) (sTm 8)) ∈ gvL := List.mem_of_getElem? (i := 756) (by decide +kernel)
theorem gvp_5_8 : Cond.not (Cond.eq (sTm 5) (sTm 8)) ∈ gvL := List.mem_of_getElem? (i := 757) (by decide +kernel)
theorem gvp_11_8 : Cond.not (Cond.eq (sTm 11) (sTm 8)) ∈ gvL := List.mem_of_getElem? (i := 758) (by decide +kernel)
theorem gvp_4_8 : Cond.not (Cond.eq (sTm 4) (sTm 8)) ∈ gvL := List.mem_of_getElem? (i := 770) (by decide +kernel)
theorem gvp_6_8 : Cond.not (Cond.eq (sTm 6) (sTm 8)) ∈ gvL := List.mem_of_getElem? (i := 771) (by decide +kernel)
theorem gvp_7_8 : Cond.not (Cond.eq (sTm 7) (sTm 8)) ∈ gvL := List.mem_of_getElem? (i := 772) (by decide +kernel)
theorem gvp_0_9 : Cond.not (Cond.eq (sTm 0) (sTm 9)) ∈ gvL := List.mem_of_getElem? (i := 780) (by decide +kernel)
theorem gvp_1_9 : Cond.not (Cond.eq (sTm 1) (sTm 9)) ∈ gvL := List.mem_of_getElem? (i := 781) (by decide +kernel)
theorem gvp_2_9 : Cond.not (Cond.eq (sTm 2) (sTm 9)) ∈ gvL := List.mem_of_getElem? (i := 782) (by decide +kernel)
theorem gvp_3_9 : Cond.not (Cond.eq (sTm 3) (sTm 9)) ∈ gvL := List.mem_of_getElem? (i := 783) (by decide +kernel)
theorem gvp_5_9 : Cond.not (Cond.eq (sTm 5) (sTm 9)) ∈ gvL := List.mem_of_getElem? (i := 784) (by decide +kernel)
theorem gvp_11_9 : Cond.not (Cond.eq (sTm 11) (sTm 9)) ∈ gvL := List.mem_of_getElem? (i := 785) (by decide +kernel)
theorem gvp_4_9 : Cond.not (Cond.eq (sTm 4) (sTm 9)) ∈ gvL := List.mem_of_getElem? (i := 797) (by decide +kernel)
theorem gvp_6_9 : Cond.not (Cond.eq (sTm 6) (sTm 9)) ∈ gvL := List.mem_of_getElem? (i := 798) (by decide +kernel)
theorem gvp_7_9 : Cond.not (Cond.eq (sTm 7) (sTm 9)) ∈ gvL := List.mem_of_getElem? (i := 799) (by decide +kernel)
theorem gvp_8_9 : Cond.not (Cond.eq (sTm 8) (sTm 9)) ∈ gvL := List.mem_of_getElem? (i := 800) (by decide +kernel)
theorem gvp_0_10 : Cond.not (Cond.eq (sTm 0) (sTm 10)) ∈ gvL := List.mem_of_getElem? (i := 806) (by decide +kernel)
theorem gvp_1_10 : Cond.not (Cond.eq (sTm 1) (sTm 10)) ∈ gvL := List.mem_of_getElem? (i := 807) (by decide +kernel)
theorem gvp_2_10 : Cond.not (Cond.eq (sTm 2) (sTm 10)) ∈ gvL := List.mem_of_getElem? (i := 808) (by decide +kernel)
theorem gvp_3_10 : Cond.not (Cond.eq (sTm 3) (sTm 10)) ∈ gvL := List.mem_of_getElem? (i := 809) (by decide +kernel)
theorem gvp_5_10 : Cond.not (Cond.eq (sTm 5) (sTm 10)) ∈ gvL := List.mem_of_getElem? (i := 810) (by decide +kernel)
theorem gvp_11_10 : Cond.not (Cond.eq (sTm 11) (sTm 10)) ∈ gvL := List.mem_of_getElem? (i := 811) (by decide +kernel)
theorem gvp_4_10 : Cond.not (Cond.eq (sTm 4) (sTm 10)) ∈ gvL := List.mem_of_getElem? (i := 823) (by decide +kernel)
theorem gvp_6_10 : Cond.not (Cond.eq (sTm 6) (sTm 10)) ∈ gvL := List.mem_of_getElem? (i := 824) (by decide +kernel)
theorem gvp_7_10 : Cond.not (Cond.eq (sTm 7) (sTm 10)) ∈ gvL := List.mem_of_getElem? (i := 825) (by decide +kernel)
theorem gvp_8_10 : Cond.not (Cond.eq (sTm 8) (sTm 10)) ∈ gvL := List.mem_of_getElem? (i := 826) (by decide +kernel)
theorem gvp_9_10 : Cond.not (Cond.eq (sTm 9) (sTm 10)) ∈ gvL := List.mem_of_getElem? (i := 827) (by decide +kernel)
theorem gv_pr : ∀ q ∈ gvP, Cond.not (Cond.eq (sTm q.1) (sTm q.2)) ∈ gvL := List.forall_mem_cons.mpr ⟨gvp_0_1, List.forall_mem_cons.mpr ⟨gvp_0_2, List.forall_mem_cons.mpr ⟨gvp_1_2, List.forall_mem_cons.mpr ⟨gvp_0_3, List.forall_mem_cons.mpr ⟨gvp_1_3, List.forall_mem_cons.mpr ⟨gvp_2_3, List.forall_mem_cons.mpr ⟨gvp_0_5, List.forall_mem_cons.mpr ⟨gvp_1_5, List.forall_mem_cons.mpr ⟨gvp_2_5, List.forall_mem_cons.mpr ⟨gvp_3_5, List.forall_mem_cons.mpr ⟨gvp_0_11, List.forall_mem_cons.mpr ⟨gvp_1_11, List.forall_mem_cons.mpr ⟨gvp_2_11, List.forall_mem_cons.mpr ⟨gvp_3_11, List.forall_mem_cons.mpr ⟨gvp_5_11, List.forall_mem_cons.mpr ⟨gvp_0_4, List.forall_mem_cons.mpr ⟨gvp_1_4, List.forall_mem_cons.mpr ⟨gvp_2_4, List.forall_mem_cons.mpr ⟨gvp_3_4, List.forall_mem_cons.mpr ⟨gvp_5_4, List.forall_mem_cons.mpr ⟨gvp_11_4, List.forall_mem_cons.mpr ⟨gvp_0_6, List.forall_mem_cons.mpr ⟨gvp_1_6, List.forall_mem_cons.mpr ⟨gvp_2_6, List.forall_mem_cons.mpr ⟨gvp_3_6, List.forall_mem_cons.mpr ⟨gvp_5_6, List.forall_mem_cons.mpr ⟨gvp_11_6, List.forall_mem_cons.mpr ⟨gvp_4_6, List.forall_mem_cons.mpr ⟨gvp_0_7, List.forall_mem_cons.mpr ⟨gvp_1_7, List.forall_mem_cons.mpr ⟨gvp_2_7, List.forall_mem_cons.mpr ⟨gvp_3_7, List.forall_mem_cons.mpr ⟨gvp_5_7, List.forall_mem_cons.mpr ⟨gvp_11_7, List.forall_mem_cons.mpr ⟨gvp_4_7, List.forall_mem_cons.mpr ⟨gvp_6_7, List.forall_mem_cons.mpr ⟨gvp_0_8, List.forall_mem_cons.mpr ⟨gvp_1_8, List.forall_mem_cons.mpr ⟨gvp_2_8, List.forall_mem_cons.mpr ⟨gvp_3_8, List.forall_mem_cons.mpr ⟨gvp_5_8, List.forall_mem_cons.mpr ⟨gvp_11_8, List.forall_mem_cons.mpr ⟨gvp_4_8, List.forall_mem_cons.mpr ⟨gvp_6_8, List.forall_mem_cons.mpr ⟨gvp_7_8, List.forall_mem_cons.mpr ⟨gvp_0_9, List.forall_mem_cons.mpr ⟨gvp_1_9, List.forall_mem_cons.mpr ⟨gvp_2_9, List.forall_mem_cons.mpr ⟨gvp_3_9, List.forall_mem_cons.mpr ⟨gvp_5_9, List.forall_mem_cons.mpr ⟨gvp_11_9, List.forall_mem_cons.mpr ⟨gvp_4_9, List.forall_mem_cons.mpr ⟨gvp_6_9, List.forall_mem_cons.mpr ⟨gvp_7_9, List.forall_mem_cons.mpr ⟨gvp_8_9, List.forall_mem_cons.mpr ⟨gvp_0_10, List.forall_mem_cons.mpr ⟨gvp_1_10, List.forall_mem_cons.mpr ⟨gvp_2_10, List.forall_mem_cons.mpr ⟨gvp_3_10, List.forall_mem_cons.mpr ⟨gvp_5_10, List.forall_mem_cons.mpr ⟨gvp_11_10, List.forall_mem_cons.mpr ⟨gvp_4_10, List.forall_mem_cons.mpr ⟨gvp_6_10, List.forall_mem_cons.mpr ⟨gvp_7_10, List.forall_mem_cons.mpr ⟨gvp_8_10, List.forall_mem_cons.mpr ⟨gvp_9_10, fun _ h => absurd h List.not_mem_nil⟩⟩⟩⟩⟩⟩⟩⟩⟩⟩⟩⟩⟩⟩⟩⟩⟩⟩⟩⟩⟩⟩⟩⟩⟩⟩⟩⟩⟩⟩⟩⟩⟩⟩⟩⟩⟩⟩⟩⟩⟩⟩⟩⟩⟩⟩⟩⟩⟩⟩⟩⟩⟩⟩⟩⟩⟩⟩⟩⟩⟩⟩⟩⟩⟩⟩
theorem gvP_b : (List.range 12).all (fun i => (List.range 12).all (fun j => (i == j) || (gvP.elem (i, j) || gvP.elem (j, i)))) = true := by decide +kernel
theorem gvP_all (i : Nat) (hi : i < 12) (j : Nat) (hj : j < 12) (hn : i ≠ j) : (i, j) ∈ gvP ∨ (j, i) ∈ gvP := by
  have h1 := List.all_eq_true.mp (List.all_eq_true.mp gvP_b i (List.mem_range.mpr hi)) j (List.mem_range.mpr hj)
  have hb : (i == j) = false := by simp [hn]
  rw [hb, Bool.false_or, Bool.or_eq_true] at h1
  exact h1.imp List.mem_of_elem_eq_true List.mem_of_elem_eq_true
theorem gv_ne (i : Nat) (hi : i < 12) (j : Nat) (hj : j < 12) (hn : i ≠ j) : Cond.not (Cond.eq (sTm i) (sTm j)) ∈ gvL ∨ Cond.not (Cond.eq (sTm j) (sTm i)) ∈ gvL := (gvP_all i hi j hj hn).imp (gv_pr _) (gv_pr _)
theorem gv_sr : ∀ i : Nat, i < 12 → Cond.stringRef (sOwn i) (sIdx i) (sTx i) ∈ lw_tbl := by decide +kernel
theorem gv_nc : ∀ q ∈ lw_nc, Cond.not (.castable q.1 q.2) ∈ gvL := by decide +kernel
theorem gv_st : ∀ j : Nat, j < 7 → Cond.eq (.elem (.static "BellObservatory$Orders" "STARTS" "[C") (.int (Int32.ofNat j))) (.int (([104, 98, 101, 114, 112, 116, 119] : List Int32).getD j 0)) ∈ gvL := by decide +kernel
theorem st_EV {s : State} {args : Array Value} (hts : ∀ w ∈ lw_tbl, w.before args s = true) (hs : ∀ w ∈ gvL, w.before args s = true) : ∃ (ak av : Nat → Nat) (aS : Nat), EV ak av aS (fun q : Nat => s.heap.size ≤ q) s s.heap := by
  have hA : ∀ a : Nat, a < s.heap.size → ¬ (fun q : Nat => s.heap.size ≤ q) a := fun a h => Nat.not_le.mpr h
  obtain ⟨ak, av, hS, hak⟩ := vk_Sof (N := 12) (tm := sTm) (len := sLen) (byt := sByt) (by decide) (fun i hi => hs _ (gv_ex i hi)) (fun i hi => hs _ (gv_co i hi)) (fun i hi => hs _ (gv_ar i hi)) (fun i hi => hs _ (gv_le i hi)) (fun i hi j hj => hs _ (gv_el i hi j hj)) (fun i j hi hj hn => (gv_ne i hi j hj hn).imp (hs _) (hs _)) hA
  obtain ⟨aS, ht, hT⟩ := va_Tof (N := 7) (f := sSt) (tm := .static "BellObservatory$Orders" "STARTS" "[C") (ty := .char) (by decide) (hs _ (by decide +kernel)) (va_eqt (hs (Cond.eq (.length (.static "BellObservatory$Orders" "STARTS" "[C")) (.int 7)) (by decide +kernel))) (fun j hj => va_eqt (hs _ (gv_st j hj))) hA
  refine ⟨ak, av, aS, ⟨⟨?_, ?_⟩, hS, fun i hi => vk_R.of (hts _ (gv_sr i hi)) (hak i hi)⟩, ⟨⟨?_, hT⟩, ?_⟩, fun q hq => va_Nc.of (hs _ (gv_nc q hq)), ?_⟩
  · exact vx_Zqof (hts _ (by decide +kernel)) (hts _ (by decide +kernel)) (hs _ (by decide +kernel)) hA
  · exact vx_Zqof (hts _ (by decide +kernel)) (hts _ (by decide +kernel)) (hs _ (by decide +kernel)) hA
  · exact va_Zref (hts _ (by decide +kernel)) (hts _ (by decide +kernel)) ht hA
  · exact va_Zof (hts _ (by decide +kernel)) (hts _ (by decide +kernel)) (va_eqt (hs _ (by decide +kernel))) hA
  · exact vx_Zqof (hts _ (by decide +kernel)) (hts _ (by decide +kernel)) (hs _ (by decide +kernel)) hA
abbrev tTm (i : Nat) : Term := .string RL (tIdx i)
theorem gvt_ex : ∀ i : Nat, i < 9 → Cond.exactly (tTm i) "java/lang/String" ∈ gvL := by decide +kernel
theorem gvt_co : ∀ i : Nat, i < 9 → Cond.eq (.field (tTm i) "java/lang/String" "coder" "B") (.int 0) ∈ gvL := by decide +kernel
theorem gvt_ar : ∀ i : Nat, i < 9 → Cond.arrayOf (.field (tTm i) "java/lang/String" "value" "[B") .byte ∈ gvL := by decide +kernel
theorem gvt_le : ∀ i : Nat, i < 9 → Cond.eq (.length (.field (tTm i) "java/lang/String" "value" "[B")) (.int (Int32.ofNat (tLen.getD i 0))) ∈ gvL := by decide +kernel

theorem gvte_0 : ∀ j : Nat, j < 1 → gvL[447 + j]? = some (Cond.eq (.elem (.field (tTm 0) "java/lang/String" "value" "[B") (.int (Int32.ofNat j))) (.int ((tByt.getD 0 []).getD j 0))) := by decide +kernel
theorem gvte_1 : ∀ j : Nat, j < 1 → gvL[457 + j]? = some (Cond.eq (.elem (.field (tTm 1) "java/lang/String" "value" "[B") (.int (Int32.ofNat j))) (.int ((tByt.getD 1 []).getD j 0))) := by decide +kernel
theorem gvte_2 : ∀ j : Nat, j < 1 → gvL[468 + j]? = some (Cond.eq (.elem (.field (tTm 2) "java/lang/String" "value" "[B") (.int (Int32.ofNat j))) (.int ((tByt.getD 2 []).getD j 0))) := by decide +kernel
theorem gvte_4 : ∀ j : Nat, j < 1 → gvL[508 + j]? = some (Cond.eq (.elem (.field (tTm 4) "java/lang/String" "value" "[B") (.int (Int32.ofNat j))) (.int ((tByt.getD 4 []).getD j 0))) := by decide +kernel
theorem gvte_5 : ∀ j : Nat, j < 9 → gvL[523 + j]? = some (Cond.eq (.elem (.field (tTm 5) "java/lang/String" "value" "[B") (.int (Int32.ofNat j))) (.int ((tByt.getD 5 []).getD j 0))) := by decide +kernel
theorem gvte_6 : ∀ j : Nat, j < 11 → gvL[580 + j]? = some (Cond.eq (.elem (.field (tTm 6) "java/lang/String" "value" "[B") (.int (Int32.ofNat j))) (.int ((tByt.getD 6 []).getD j 0))) := by decide +kernel
theorem gvte_7 : ∀ j : Nat, j < 4 → gvL[609 + j]? = some (Cond.eq (.elem (.field (tTm 7) "java/lang/String" "value" "[B") (.int (Int32.ofNat j))) (.int ((tByt.getD 7 []).getD j 0))) := by decide +kernel
theorem gvte_8 : ∀ j : Nat, j < 2 → gvL[632 + j]? = some (Cond.eq (.elem (.field (tTm 8) "java/lang/String" "value" "[B") (.int (Int32.ofNat j))) (.int ((tByt.getD 8 []).getD j 0))) := by decide +kernel
theorem gvt_el : ∀ i : Nat, i < 9 → ∀ j : Nat, j < tLen.getD i 0 → Cond.eq (.elem (.field (tTm i) "java/lang/String" "value" "[B") (.int (Int32.ofNat j))) (.int ((tByt.getD i []).getD j 0)) ∈ gvL := fun i hi j hj => match i, hi, hj with
  | 0, _, hj => List.mem_of_getElem? (gvte_0 j hj)
  | 1, _, hj => List.mem_of_getElem? (gvte_1 j hj)
  | 2, _, hj => List.mem_of_getElem? (gvte_2 j hj)
  | 3, _, hj => absurd hj (Nat.not_lt_zero _)
  | 4, _, hj => List.mem_of_getElem? (gvte_4 j hj)
  | 5, _, hj => List.mem_of_getElem? (gvte_5 j hj)
  | 6, _, hj => List.mem_of_getElem? (gvte_6 j hj)
  | 7, _, hj => List.mem_of_getElem? (gvte_7 j hj)
  | 8, _, hj => List.mem_of_getElem? (gvte_8 j hj)
  | n + 9, hi, _ => absurd hi (by omega)
def gvtP : List (Nat × Nat) := [(0, 1), (0, 2), (1, 2), (0, 3), (1, 3), (2, 3), (0, 4), (1, 4), (2, 4), (3, 4), (0, 5), (1, 5), (2, 5), (3, 5), (4, 5), (0, 6), (1, 6), (2, 6), (3, 6), (4, 6), (5, 6), (0, 7), (1, 7), (2, 7), (3, 7), (4, 7), (5, 7), (6, 7), (0, 8), (1, 8), (2, 8), (3, 8), (4, 8), (5, 8), (6, 8), (7, 8)]
theorem gvtp_0_1 : Cond.not (Cond.eq (tTm 0) (tTm 1)) ∈ gvL := List.mem_of_getElem? (i := 463) (by decide +kernel)
theorem gvtp_0_2 : Cond.not (Cond.eq (tTm 0) (tTm 2)) ∈ gvL := List.mem_of_getElem? (i := 474) (by decide +kernel)
theorem gvtp_1_2 : Cond.not (Cond.eq (tTm 1) (tTm 2)) ∈ gvL := List.mem_of_getElem? (i := 475) (by decide +kernel)
theorem gvtp_0_3 : Cond.not (Cond.eq (tTm 0) (tTm 3)) ∈ gvL := List.mem_of_getElem? (i := 500) (by decide +kernel)
theorem gvtp_1_3 : Cond.not (Cond.eq (tTm 1) (tTm 3)) ∈ gvL := List.mem_of_getElem? (i := 501) (by decide +kernel)
theorem gvtp_2_3 : Cond.not (Cond.eq (tTm 2) (tTm 3)) ∈ gvL := List.mem_of_getElem? (i := 502) (by decide +kernel)
theorem gvtp_0_4 : Cond.not (Cond.eq (tTm 0) (tTm 4)) ∈ gvL := List.mem_of_getElem? (i := 514) (by decide +kernel)
theorem gvtp_1_4 : Cond.not (Cond.eq (tTm 1) (tTm 4)) ∈ gvL := List.mem_of_getElem? (i := 515) (by decide +kernel)
theorem gvtp_2_4 : Cond.not (Cond.eq (tTm 2) (tTm 4)) ∈ gvL := List.mem_of_getElem? (i := 516) (by decide +kernel)
theorem gvtp_3_4 : Cond.not (Cond.eq (tTm 3) (tTm 4)) ∈ gvL := List.mem_of_getElem? (i := 518) (by decide +kernel)
theorem gvtp_0_5 : Cond.not (Cond.eq (tTm 0) (tTm 5)) ∈ gvL := List.mem_of_getElem? (i := 537) (by decide +kernel)
theorem gvtp_1_5 : Cond.not (Cond.eq (tTm 1) (tTm 5)) ∈ gvL := List.mem_of_getElem? (i := 538) (by decide +kernel)
theorem gvtp_2_5 : Cond.not (Cond.eq (tTm 2) (tTm 5)) ∈ gvL := List.mem_of_getElem? (i := 539) (by decide +kernel)
theorem gvtp_3_5 : Cond.not (Cond.eq (tTm 3) (tTm 5)) ∈ gvL := List.mem_of_getElem? (i := 541) (by decide +kernel)
theorem gvtp_4_5 : Cond.not (Cond.eq (tTm 4) (tTm 5)) ∈ gvL := List.mem_of_getElem? (i := 542) (by decide +kernel)
theorem gvtp_0_6 : Cond.not (Cond.eq (tTm 0) (tTm 6)) ∈ gvL := List.mem_of_getElem? (i := 596) (by decide +kernel)
theorem gvtp_1_6 : Cond.not (Cond.eq (tTm 1) (tTm 6)) ∈ gvL := List.mem_of_getElem? (i := 597) (by decide +kernel)
theorem gvtp_2_6 : Cond.not (Cond.eq (tTm 2) (tTm 6)) ∈ gvL := List.mem_of_getElem? (i := 598) (by decide +kernel)
theorem gvtp_3_6 : Cond.not (Cond.eq (tTm 3) (tTm 6)) ∈ gvL := List.mem_of_getElem? (i := 600) (by decide +kernel)
theorem gvtp_4_6 : Cond.not (Cond.eq (tTm 4) (tTm 6)) ∈ gvL := List.mem_of_getElem? (i := 601) (by decide +kernel)
theorem gvtp_5_6 : Cond.not (Cond.eq (tTm 5) (tTm 6)) ∈ gvL := List.mem_of_getElem? (i := 602) (by decide +kernel)
theorem gvtp_0_7 : Cond.not (Cond.eq (tTm 0) (tTm 7)) ∈ gvL := List.mem_of_getElem? (i := 618) (by decide +kernel)
theorem gvtp_1_7 : Cond.not (Cond.eq (tTm 1) (tTm 7)) ∈ gvL := List.mem_of_getElem? (i := 619) (by decide +kernel)
theorem gvtp_2_7 : Cond.not (Cond.eq (tTm 2) (tTm 7)) ∈ gvL := List.mem_of_getElem? (i := 620) (by decide +kernel)
theorem gvtp_3_7 : Cond.not (Cond.eq (tTm 3) (tTm 7)) ∈ gvL := List.mem_of_getElem? (i := 622) (by decide +kernel)
theorem gvtp_4_7 : Cond.not (Cond.eq (tTm 4) (tTm 7)) ∈ gvL := List.mem_of_getElem? (i := 623) (by decide +kernel)
theorem gvtp_5_7 : Cond.not (Cond.eq (tTm 5) (tTm 7)) ∈ gvL := List.mem_of_getElem? (i := 624) (by decide +kernel)
theorem gvtp_6_7 : Cond.not (Cond.eq (tTm 6) (tTm 7)) ∈ gvL := List.mem_of_getElem? (i := 627) (by decide +kernel)
theorem gvtp_0_8 : Cond.not (Cond.eq (tTm 0) (tTm 8)) ∈ gvL := List.mem_of_getElem? (i := 639) (by decide +kernel)
theorem gvtp_1_8 : Cond.not (Cond.eq (tTm 1) (tTm 8)) ∈ gvL := List.mem_of_getElem? (i := 640) (by decide +kernel)
theorem gvtp_2_8 : Cond.not (Cond.eq (tTm 2) (tTm 8)) ∈ gvL := List.mem_of_getElem? (i := 641) (by decide +kernel)
theorem gvtp_3_8 : Cond.not (Cond.eq (tTm 3) (tTm 8)) ∈ gvL := List.mem_of_getElem? (i := 643) (by decide +kernel)
theorem gvtp_4_8 : Cond.not (Cond.eq (tTm 4) (tTm 8)) ∈ gvL := List.mem_of_getElem? (i := 644) (by decide +kernel)
theorem gvtp_5_8 : Cond.not (Cond.eq (tTm 5) (tTm 8)) ∈ gvL := List.mem_of_getElem? (i := 645) (by decide +kernel)
theorem gvtp_6_8 : Cond.not (Cond.eq (tTm 6) (tTm 8)) ∈ gvL := List.mem_of_getElem? (i := 648) (by decide +kernel)
theorem gvtp_7_8 : Cond.not (Cond.eq (tTm 7) (tTm 8)) ∈ gvL := List.mem_of_getElem? (i := 649) (by decide +kernel)
theorem gvt_pr : ∀ q ∈ gvtP, Cond.not (Cond.eq (tTm q.1) (tTm q.2)) ∈ gvL := List.forall_mem_cons.mpr ⟨gvtp_0_1, List.forall_mem_cons.mpr ⟨gvtp_0_2, List.forall_mem_cons.mpr ⟨gvtp_1_2, List.forall_mem_cons.mpr ⟨gvtp_0_3, List.forall_mem_cons.mpr ⟨gvtp_1_3, List.forall_mem_cons.mpr ⟨gvtp_2_3, List.forall_mem_cons.mpr ⟨gvtp_0_4, List.forall_mem_cons.mpr ⟨gvtp_1_4, List.forall_mem_cons.mpr ⟨gvtp_2_4, List.forall_mem_cons.mpr ⟨gvtp_3_4, List.forall_mem_cons.mpr ⟨gvtp_0_5, List.forall_mem_cons.mpr ⟨gvtp_1_5, List.forall_mem_cons.mpr ⟨gvtp_2_5, List.forall_mem_cons.mpr ⟨gvtp_3_5, List.forall_mem_cons.mpr ⟨gvtp_4_5, List.forall_mem_cons.mpr ⟨gvtp_0_6, List.forall_mem_cons.mpr ⟨gvtp_1_6, List.forall_mem_cons.mpr ⟨gvtp_2_6, List.forall_mem_cons.mpr ⟨gvtp_3_6, List.forall_mem_cons.mpr ⟨gvtp_4_6, List.forall_mem_cons.mpr ⟨gvtp_5_6, List.forall_mem_cons.mpr ⟨gvtp_0_7, List.forall_mem_cons.mpr ⟨gvtp_1_7, List.forall_mem_cons.mpr ⟨gvtp_2_7, List.forall_mem_cons.mpr ⟨gvtp_3_7, List.forall_mem_cons.mpr ⟨gvtp_4_7, List.forall_mem_cons.mpr ⟨gvtp_5_7, List.forall_mem_cons.mpr ⟨gvtp_6_7, List.forall_mem_cons.mpr ⟨gvtp_0_8, List.forall_mem_cons.mpr ⟨gvtp_1_8, List.forall_mem_cons.mpr ⟨gvtp_2_8, List.forall_mem_cons.mpr ⟨gvtp_3_8, List.forall_mem_cons.mpr ⟨gvtp_4_8, List.forall_mem_cons.mpr ⟨gvtp_5_8, List.forall_mem_cons.mpr ⟨gvtp_6_8, List.forall_mem_cons.mpr ⟨gvtp_7_8, fun _ h => absurd h List.not_mem_nil⟩⟩⟩⟩⟩⟩⟩⟩⟩⟩⟩⟩⟩⟩⟩⟩⟩⟩⟩⟩⟩⟩⟩⟩⟩⟩⟩⟩⟩⟩⟩⟩⟩⟩⟩⟩
theorem gvtP_b : (List.range 9).all (fun i => (List.range 9).all (fun j => (i == j) || (gvtP.elem (i, j) || gvtP.elem (j, i)))) = true := by decide +kernel
theorem gvtP_all (i : Nat) (hi : i < 9) (j : Nat) (hj : j < 9) (hn : i ≠ j) : (i, j) ∈ gvtP ∨ (j, i) ∈ gvtP := by
  have h1 := List.all_eq_true.mp (List.all_eq_true.mp gvtP_b i (List.mem_range.mpr hi)) j (List.mem_range.mpr hj)
  have hb : (i == j) = false := by simp [hn]
  rw [hb, Bool.false_or, Bool.or_eq_true] at h1
  exact h1.imp List.mem_of_elem_eq_true List.mem_of_elem_eq_true
theorem gvt_ne (i : Nat) (hi : i < 9) (j : Nat) (hj : j < 9) (hn : i ≠ j) : Cond.not (Cond.eq (tTm i) (tTm j)) ∈ gvL ∨ Cond.not (Cond.eq (tTm j) (tTm i)) ∈ gvL := (gvtP_all i hi j hj hn).imp (gvt_pr _) (gvt_pr _)
theorem gvt_sr : ∀ i : Nat, i < 9 → Cond.stringRef RL (tIdx i) (tTx i) ∈ lw_tbl := by decide +kernel
abbrev eTm (_ : Nat) : Term := .string "java/lang/StringLatin1" 151
theorem gve_ex : ∀ i : Nat, i < 1 → Cond.exactly (eTm i) "java/lang/String" ∈ gvL := by decide +kernel
theorem gve_co : ∀ i : Nat, i < 1 → Cond.eq (.field (eTm i) "java/lang/String" "coder" "B") (.int 0) ∈ gvL := by decide +kernel
theorem gve_ar : ∀ i : Nat, i < 1 → Cond.arrayOf (.field (eTm i) "java/lang/String" "value" "[B") .byte ∈ gvL := by decide +kernel
theorem gve_le : ∀ i : Nat, i < 1 → Cond.eq (.length (.field (eTm i) "java/lang/String" "value" "[B")) (.int (Int32.ofNat (([0] : List Nat).getD i 0))) ∈ gvL := by decide +kernel
theorem gve_el : ∀ i : Nat, i < 1 → ∀ j : Nat, j < ([0] : List Nat).getD i 0 → Cond.eq (.elem (.field (eTm i) "java/lang/String" "value" "[B") (.int (Int32.ofNat j))) (.int ((([[]] : List (List Int32)).getD i []).getD j 0)) ∈ gvL := fun i hi j hj => by
  obtain rfl : i = 0 := by omega
  exact absurd hj (Nat.not_lt_zero _)
theorem gv_dTe : ∀ j : Nat, j < 100 → gvL[113 + j]? = some (Cond.eq (.elem (.static "java/lang/Integer" "DigitTens" "[B") (.int (Int32.ofNat j))) (.int (Int32.ofNat (48 + j / 10)))) := by decide +kernel
theorem gv_dT (j : Nat) (hj : j < 100) : Cond.eq (.elem (.static "java/lang/Integer" "DigitTens" "[B") (.int (Int32.ofNat j))) (.int (Int32.ofNat (48 + j / 10))) ∈ gvL := List.mem_of_getElem? (gv_dTe j hj)
theorem gv_dOe : ∀ j : Nat, j < 100 → gvL[10 + j]? = some (Cond.eq (.elem (.static "java/lang/Integer" "DigitOnes" "[B") (.int (Int32.ofNat j))) (.int (Int32.ofNat (48 + j % 10)))) := by decide +kernel
theorem gv_dO (j : Nat) (hj : j < 100) : Cond.eq (.elem (.static "java/lang/Integer" "DigitOnes" "[B") (.int (Int32.ofNat j))) (.int (Int32.ofNat (48 + j % 10))) ∈ gvL := List.mem_of_getElem? (gv_dOe j hj)
theorem gv_pv : ∀ y ∈ pvL, Cond.privateMethod y ∈ lw_tbl := by decide +kernel
theorem st_KF {s : State} {args : Array Value} {b L : Nat} {xs : Nat → Int32} (hts : ∀ w ∈ lw_tbl, w.before args s = true) (hs : ∀ w ∈ gvL, w.before args s = true) (hX : va_X b L xs s s.heap) : ∃ (ak av : Nat → Nat) (aS : Nat) (tk tv : Nat → Nat) (z : Nat × Nat × Nat × Nat), KF (ak, av, aS, (b, L, xs), tk, tv, z) (fun q : Nat => s.heap.size ≤ q) s s.heap := by
  have hA : ∀ a : Nat, a < s.heap.size → ¬ (fun q : Nat => s.heap.size ≤ q) a := fun a h => Nat.not_le.mpr h
  obtain ⟨ak, av, aS, hE⟩ := st_EV hts hs
  obtain ⟨tk, tv, hS, hak⟩ := vk_Sof (N := 9) (tm := tTm) (len := tLen) (byt := tByt) (by decide) (fun i hi => hs _ (gvt_ex i hi)) (fun i hi => hs _ (gvt_co i hi)) (fun i hi => hs _ (gvt_ar i hi)) (fun i hi => hs _ (gvt_le i hi)) (fun i hi j hj => hs _ (gvt_el i hi j hj)) (fun i j hi hj hn => (gvt_ne i hi j hj hn).imp (hs _) (hs _)) hA
  obtain ⟨ek, ew, hS2, hek⟩ := vk_Sof (N := 1) (tm := eTm) (len := [0]) (byt := [[]]) (by decide) (fun i hi => hs _ (gve_ex i hi)) (fun i hi => hs _ (gve_co i hi)) (fun i hi => hs _ (gve_ar i hi)) (fun i hi => hs _ (gve_le i hi)) (fun i hi j hj => hs _ (gve_el i hi j hj)) (fun i j hi hj hn => absurd (show i = j by omega) hn) hA
  obtain ⟨aT, h1, hT⟩ := va_Tof (N := 100) (f := dTens) (tm := .static "java/lang/Integer" "DigitTens" "[B") (ty := .byte) (by decide) (hs _ (by decide +kernel)) (va_eqt (hs (Cond.eq (.length (.static "java/lang/Integer" "DigitTens" "[B")) (.int 100)) (by decide +kernel))) (fun j hj => va_eqt (hs _ (gv_dT j hj))) hA
  obtain ⟨aO, h2, hO⟩ := va_Tof (N := 100) (f := dOnes) (tm := .static "java/lang/Integer" "DigitOnes" "[B") (ty := .byte) (by decide) (hs _ (by decide +kernel)) (va_eqt (hs (Cond.eq (.length (.static "java/lang/Integer" "DigitOnes" "[B")) (.int 100)) (by decide +kernel))) (fun j hj => va_eqt (hs _ (gv_dO j hj))) hA
  refine ⟨ak, av, aS, tk, tv, (aT, aO, ek 0, ew 0), hE, ⟨hX, hA b hX.lt⟩, va_AO.of (hts _ qo_Town), ⟨hS, fun i hi => vk_R.of (hts _ (gvt_sr i hi)) (hak i hi)⟩, ⟨⟨?_, hT⟩, ?_, hO⟩, ⟨fun i hi => ?_, fun i j hi hj _ => by omega⟩, vk_R.of (hts _ (by decide +kernel)) (hek 0 (by decide)), fun y hy => va_Nw.of rfl (hts _ (gv_pv y hy))⟩
  · exact va_Zref (hts _ (by decide +kernel)) (hts _ (by decide +kernel)) h1 hA
  · exact va_Zref (hts _ (by decide +kernel)) (hts _ (by decide +kernel)) h2 hA
  · obtain rfl : i = 0 := by omega
    exact hS2.1 0 (by decide)
