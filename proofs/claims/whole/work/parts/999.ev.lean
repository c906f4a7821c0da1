/-! ===== what the Statement gives of the start ===== -/
theorem st_arr {s : State} {args : Array Value} {ty : FieldType} (h : (Cond.arrayClass ty).before args s = true) : ∃ cA : ClassId, ArrOfT s cA ty ∧ s.vm.findClass ("[" ++ ty.toString) = some cA := by
  obtain ⟨c, k, comp, h1, h2, h3⟩ := Cond.arrayClass_spec (args := args) (first := s) (o := none) (s := s) (idx := []) h
  exact ⟨c, fun n z => ⟨fun k h => (by cases h), k, h2, comp, h3⟩, h1⟩
theorem st_town {s : State} (h : va_AO "BellObservatory$Town" s) : ∃ cA : ClassId, ArrOfT s cA (.object "BellObservatory$Town") ∧ va_RA s cA (.object "BellObservatory$Town") := by
  obtain ⟨comp, c, k, h1, h2, h3, h4, h5⟩ := Cond.arrayOver_spec h
  exact ⟨c, fun n z => ⟨fun k h => (by cases h), k, h3, comp, h4⟩, k, comp, h3, h4, h1, h5⟩
theorem iw_J0 : ∀ w ∈ wsJ00, w ∈ lw_all := by decide +kernel
theorem iw_Jx00060 : ∀ w ∈ wsJx000600, w ∈ lw_all := by decide +kernel
theorem qo_Town : Cond.arrayOver (.object "BellObservatory$Town") ∈ lw_tbl := by decide +kernel
def pickD (l : List ClassId) (k : Nat) : ClassId := l.getD k 0
def pickI (l : List (Nat → Nat)) (k : Nat) : Nat → Nat := l.getD k id
theorem st_NW {s : State} {args : Array Value} (hts : ∀ w ∈ lw_tbl, w.before args s = true) : NW s := by
  intro w hw
  have h := hts w (lw_nst_in w hw)
  rcases nst_keeps w hw with (⟨a, i, b, n, d, z, rfl⟩ | ⟨a, i, x, z, rfl⟩) | ⟨x, rfl⟩ | ⟨a, b, rfl⟩ <;> exact va_Nw.of rfl h
theorem st_KK {s : State} {args : Array Value} (hts : ∀ w ∈ lw_tbl, w.before args s = true) : ∃ (D : va_G) (g : Nat → ClassId), KK D g s := by
  have hq : ∀ w ∈ lw_all, w.before args s = true := fun w h => hts w (lw_in w h)
  obtain ⟨c0, i0, k0⟩ := u_known (C := RJ0) (T := TJ0) (N := 2) hq iw_J0 (hq _ qt_J0)
  obtain ⟨c1, i1, k1⟩ := u_known (C := RJx00060) (T := TJx00060) (N := 6) hq iw_Jx00060 (hq _ qt_Jx00060)
  obtain ⟨c2, i2, k2⟩ := u_known (C := RX1) (T := TX1) (N := 4) hq iw_X1 (hq _ qt_X1)
  obtain ⟨c3, i3, k3⟩ := u_known (C := RX2) (T := TX2) (N := 6) hq iw_X2 (hq _ qt_X2)
  obtain ⟨c4, i4, k4⟩ := u_known (C := RX3) (T := TX3) (N := 7) hq iw_X3 (hq _ qt_X3)
  obtain ⟨c5, i5, k5⟩ := u_known (C := RX4) (T := TX4) (N := 3) hq iw_X4 (hq _ qt_X4)
  obtain ⟨c6, i6, k6⟩ := u_known (C := RX5) (T := TX5) (N := 3) hq iw_X5 (hq _ qt_X5)
  obtain ⟨c7, i7, k7⟩ := u_known (C := RX6) (T := TX6) (N := 2) hq iw_X6 (hq _ qt_X6)
  obtain ⟨c8, i8, k8⟩ := u_known (C := RX8) (T := TX8) (N := 2) hq iw_X8 (hq _ qt_X8)
  obtain ⟨c9, i9, k9⟩ := u_known (C := RX9) (T := TX9) (N := 11) hq iw_X9 (hq _ qt_X9)
  obtain ⟨c10, i10, k10⟩ := u_known (C := RX10) (T := TX10) (N := 6) hq iw_X10 (hq _ qt_X10)
  obtain ⟨c11, i11, k11⟩ := u_known (C := RX11) (T := TX11) (N := 9) hq iw_X11 (hq _ qt_X11)
  obtain ⟨c12, i12, k12⟩ := u_known (C := RX12) (T := TX12) (N := 23) hq iw_X12 (hq _ qt_X12)
  obtain ⟨a0, p0, r0⟩ := st_arr (hq _ qa_int)
  obtain ⟨a1, p1, r1⟩ := st_arr (hq _ qa_char)
  obtain ⟨a2, p2, r2⟩ := st_arr (hq _ qa_long)
  obtain ⟨a3, p3, r3⟩ := st_arr (hq _ qa_double)
  obtain ⟨a4, p4, r4⟩ := st_town (va_AO.of (hts _ qo_Town))
  obtain ⟨a5, p5, r5⟩ := st_arr (hq _ qa_byte)
  refine ⟨(pickD [c0, c1, c2, c3, c4, c5, c6, c7, c8, c9, c10, c11, c12], pickI [i0, i1, i2, i3, i4, i5, i6, i7, i8, i9, i10, i11, i12]), pickD [a0, a1, a2, a3, a4, a5], ⟨fun k q hk => ?_, fun k q hk => ?_⟩, st_NW hts⟩
  · match k, hk with
    | 0, hk => cases hk; exact k0
    | 1, hk => cases hk; exact k1
    | 2, hk => cases hk; exact k2
    | 3, hk => cases hk; exact k3
    | 4, hk => cases hk; exact k4
    | 5, hk => cases hk; exact k5
    | 6, hk => cases hk; exact k6
    | 7, hk => cases hk; exact k7
    | 8, hk => cases hk; exact k8
    | 9, hk => cases hk; exact k9
    | 10, hk => cases hk; exact k10
    | 11, hk => cases hk; exact k11
    | 12, hk => cases hk; exact k12
    | k + 13, hk => cases hk
  · match k, hk with
    | 0, hk => cases hk; exact ⟨p0, r0⟩
    | 1, hk => cases hk; exact ⟨p1, r1⟩
    | 2, hk => cases hk; exact ⟨p2, r2⟩
    | 3, hk => cases hk; exact ⟨p3, r3⟩
    | 4, hk => cases hk; exact ⟨p4, r4⟩
    | 5, hk => cases hk; exact ⟨p5, r5⟩
    | k + 6, hk => cases hk
abbrev gvL : List Cond := flatC (Jvm.Cond.and given_1 narrow_1)
abbrev sTm (i : Nat) : Term := .string (sOwn i) (sIdx i)
theorem gv_ex : ∀ i : Nat, i < 12 → Cond.exactly (sTm i) "java/lang/String" ∈ gvL := by decide +kernel
theorem gv_co : ∀ i : Nat, i < 12 → Cond.eq (.field (sTm i) "java/lang/String" "coder" "B") (.int 0) ∈ gvL := by decide +kernel
theorem gv_ar : ∀ i : Nat, i < 12 → Cond.arrayOf (.field (sTm i) "java/lang/String" "value" "[B") .byte ∈ gvL := by decide +kernel
theorem gv_le : ∀ i : Nat, i < 12 → Cond.eq (.length (.field (sTm i) "java/lang/String" "value" "[B")) (.int (Int32.ofNat (sLen.getD i 0))) ∈ gvL := by decide +kernel
theorem gv_el : ∀ i : Nat, i < 12 → ∀ j : Nat, j < sLen.getD i 0 → Cond.eq (.elem (.field (sTm i) "java/lang/String" "value" "[B") (.int (Int32.ofNat j))) (.int ((sByt.getD i []).getD j 0)) ∈ gvL := by decide +kernel
def gvP : List (Nat × Nat) := [(0, 1), (0, 2), (1, 2), (0, 3), (1, 3), (2, 3), (0, 4), (1, 4), (2, 4), (3, 4), (0, 6), (1, 6), (2, 6), (3, 6), (4, 6), (0, 7), (1, 7), (2, 7), (3, 7), (4, 7), (6, 7), (0, 8), (1, 8), (2, 8), (3, 8), (4, 8), (6, 8), (7, 8), (0, 9), (1, 9), (2, 9), (3, 9), (4, 9), (6, 9), (7, 9), (8, 9), (0, 10), (1, 10), (2, 10), (3, 10), (4, 10), (6, 10), (7, 10), (8, 10), (9, 10), (0, 5), (1, 5), (2, 5), (3, 5), (4, 5), (6, 5), (7, 5), (8, 5), (9, 5), (10, 5), (0, 11), (1, 11), (2, 11), (3, 11), (4, 11), (6, 11), (7, 11), (8, 11), (9, 11), (10, 11), (5, 11)]
theorem gvp_0_1 : Cond.not (Cond.eq (sTm 0) (sTm 1)) ∈ gvL := List.mem_of_getElem? (i := 172) (by decide +kernel)
theorem gvp_0_2 : Cond.not (Cond.eq (sTm 0) (sTm 2)) ∈ gvL := List.mem_of_getElem? (i := 192) (by decide +kernel)
theorem gvp_1_2 : Cond.not (Cond.eq (sTm 1) (sTm 2)) ∈ gvL := List.mem_of_getElem? (i := 193) (by decide +kernel)
theorem gvp_0_3 : Cond.not (Cond.eq (sTm 0) (sTm 3)) ∈ gvL := List.mem_of_getElem? (i := 211) (by decide +kernel)
theorem gvp_1_3 : Cond.not (Cond.eq (sTm 1) (sTm 3)) ∈ gvL := List.mem_of_getElem? (i := 212) (by decide +kernel)
theorem gvp_2_3 : Cond.not (Cond.eq (sTm 2) (sTm 3)) ∈ gvL := List.mem_of_getElem? (i := 213) (by decide +kernel)
theorem gvp_0_4 : Cond.not (Cond.eq (sTm 0) (sTm 4)) ∈ gvL := List.mem_of_getElem? (i := 236) (by decide +kernel)
theorem gvp_1_4 : Cond.not (Cond.eq (sTm 1) (sTm 4)) ∈ gvL := List.mem_of_getElem? (i := 237) (by decide +kernel)
theorem gvp_2_4 : Cond.not (Cond.eq (sTm 2) (sTm 4)) ∈ gvL := List.mem_of_getElem? (i := 238) (by decide +kernel)
theorem gvp_3_4 : Cond.not (Cond.eq (sTm 3) (sTm 4)) ∈ gvL := List.mem_of_getElem? (i := 239) (by decide +kernel)
theorem gvp_0_6 : Cond.not (Cond.eq (sTm 0) (sTm 6)) ∈ gvL := List.mem_of_getElem? (i := 249) (by decide +kernel)
theorem gvp_1_6 : Cond.not (Cond.eq (sTm 1) (sTm 6)) ∈ gvL := List.mem_of_getElem? (i := 250) (by decide +kernel)
theorem gvp_2_6 : Cond.not (Cond.eq (sTm 2) (sTm 6)) ∈ gvL := List.mem_of_getElem? (i := 251) (by decide +kernel)
theorem gvp_3_6 : Cond.not (Cond.eq (sTm 3) (sTm 6)) ∈ gvL := List.mem_of_getElem? (i := 252) (by decide +kernel)
theorem gvp_4_6 : Cond.not (Cond.eq (sTm 4) (sTm 6)) ∈ gvL := List.mem_of_getElem? (i := 253) (by decide +kernel)
theorem gvp_0_7 : Cond.not (Cond.eq (sTm 0) (sTm 7)) ∈ gvL := List.mem_of_getElem? (i := 263) (by decide +kernel)
theorem gvp_1_7 : Cond.not (Cond.eq (sTm 1) (sTm 7)) ∈ gvL := List.mem_of_getElem? (i := 264) (by decide +kernel)
theorem gvp_2_7 : Cond.not (Cond.eq (sTm 2) (sTm 7)) ∈ gvL := List.mem_of_getElem? (i := 265) (by decide +kernel)
theorem gvp_3_7 : Cond.not (Cond.eq (sTm 3) (sTm 7)) ∈ gvL := List.mem_of_getElem? (i := 266) (by decide +kernel)
theorem gvp_4_7 : Cond.not (Cond.eq (sTm 4) (sTm 7)) ∈ gvL := List.mem_of_getElem? (i := 267) (by decide +kernel)
theorem gvp_6_7 : Cond.not (Cond.eq (sTm 6) (sTm 7)) ∈ gvL := List.mem_of_getElem? (i := 268) (by decide +kernel)
theorem gvp_0_8 : Cond.not (Cond.eq (sTm 0) (sTm 8)) ∈ gvL := List.mem_of_getElem? (i := 278) (by decide +kernel)
theorem gvp_1_8 : Cond.not (Cond.eq (sTm 1) (sTm 8)) ∈ gvL := List.mem_of_getElem? (i := 279) (by decide +kernel)
theorem gvp_2_8 : Cond.not (Cond.eq (sTm 2) (sTm 8)) ∈ gvL := List.mem_of_getElem? (i := 280) (by decide +kernel)
theorem gvp_3_8 : Cond.not (Cond.eq (sTm 3) (sTm 8)) ∈ gvL := List.mem_of_getElem? (i := 281) (by decide +kernel)
theorem gvp_4_8 : Cond.not (Cond.eq (sTm 4) (sTm 8)) ∈ gvL := List.mem_of_getElem? (i := 282) (by decide +kernel)
theorem gvp_6_8 : Cond.not (Cond.eq (sTm 6) (sTm 8)) ∈ gvL := List.mem_of_getElem? (i := 283) (by decide +kernel)
theorem gvp_7_8 : Cond.not (Cond.eq (sTm 7) (sTm 8)) ∈ gvL := List.mem_of_getElem? (i := 284) (by decide +kernel)
theorem gvp_0_9 : Cond.not (Cond.eq (sTm 0) (sTm 9)) ∈ gvL := List.mem_of_getElem? (i := 292) (by decide +kernel)
theorem gvp_1_9 : Cond.not (Cond.eq (sTm 1) (sTm 9)) ∈ gvL := List.mem_of_getElem? (i := 293) (by decide +kernel)
theorem gvp_2_9 : Cond.not (Cond.eq (sTm 2) (sTm 9)) ∈ gvL := List.mem_of_getElem? (i := 294) (by decide +kernel)
theorem gvp_3_9 : Cond.not (Cond.eq (sTm 3) (sTm 9)) ∈ gvL := List.mem_of_getElem? (i := 295) (by decide +kernel)
theorem gvp_4_9 : Cond.not (Cond.eq (sTm 4) (sTm 9)) ∈ gvL := List.mem_of_getElem? (i := 296) (by decide +kernel)
theorem gvp_6_9 : Cond.not (Cond.eq (sTm 6) (sTm 9)) ∈ gvL := List.mem_of_getElem? (i := 297) (by decide +kernel)
theorem gvp_7_9 : Cond.not (Cond.eq (sTm 7) (sTm 9)) ∈ gvL := List.mem_of_getElem? (i := 298) (by decide +kernel)
theorem gvp_8_9 : Cond.not (Cond.eq (sTm 8) (sTm 9)) ∈ gvL := List.mem_of_getElem? (i := 299) (by decide +kernel)
theorem gvp_0_10 : Cond.not (Cond.eq (sTm 0) (sTm 10)) ∈ gvL := List.mem_of_getElem? (i := 305) (by decide +kernel)
theorem gvp_1_10 : Cond.not (Cond.eq (sTm 1) (sTm 10)) ∈ gvL := List.mem_of_getElem? (i := 306) (by decide +kernel)
theorem gvp_2_10 : Cond.not (Cond.eq (sTm 2) (sTm 10)) ∈ gvL := List.mem_of_getElem? (i := 307) (by decide +kernel)
theorem gvp_3_10 : Cond.not (Cond.eq (sTm 3) (sTm 10)) ∈ gvL := List.mem_of_getElem? (i := 308) (by decide +kernel)
theorem gvp_4_10 : Cond.not (Cond.eq (sTm 4) (sTm 10)) ∈ gvL := List.mem_of_getElem? (i := 309) (by decide +kernel)
theorem gvp_6_10 : Cond.not (Cond.eq (sTm 6) (sTm 10)) ∈ gvL := List.mem_of_getElem? (i := 310) (by decide +kernel)
theorem gvp_7_10 : Cond.not (Cond.eq (sTm 7) (sTm 10)) ∈ gvL := List.mem_of_getElem? (i := 311) (by decide +kernel)
theorem gvp_8_10 : Cond.not (Cond.eq (sTm 8) (sTm 10)) ∈ gvL := List.mem_of_getElem? (i := 312) (by decide +kernel)
theorem gvp_9_10 : Cond.not (Cond.eq (sTm 9) (sTm 10)) ∈ gvL := List.mem_of_getElem? (i := 313) (by decide +kernel)
theorem gvp_0_5 : Cond.not (Cond.eq (sTm 0) (sTm 5)) ∈ gvL := List.mem_of_getElem? (i := 345) (by decide +kernel)
theorem gvp_1_5 : Cond.not (Cond.eq (sTm 1) (sTm 5)) ∈ gvL := List.mem_of_getElem? (i := 346) (by decide +kernel)
theorem gvp_2_5 : Cond.not (Cond.eq (sTm 2) (sTm 5)) ∈ gvL := List.mem_of_getElem? (i := 347) (by decide +kernel)
theorem gvp_3_5 : Cond.not (Cond.eq (sTm 3) (sTm 5)) ∈ gvL := List.mem_of_getElem? (i := 348) (by decide +kernel)
theorem gvp_4_5 : Cond.not (Cond.eq (sTm 4) (sTm 5)) ∈ gvL := List.mem_of_getElem? (i := 349) (by decide +kernel)
theorem gvp_6_5 : Cond.not (Cond.eq (sTm 6) (sTm 5)) ∈ gvL := List.mem_of_getElem? (i := 350) (by decide +kernel)
theorem gvp_7_5 : Cond.not (Cond.eq (sTm 7) (sTm 5)) ∈ gvL := List.mem_of_getElem? (i := 351) (by decide +kernel)
theorem gvp_8_5 : Cond.not (Cond.eq (sTm 8) (sTm 5)) ∈ gvL := List.mem_of_getElem? (i := 352) (by decide +kernel)
theorem gvp_9_5 : Cond.not (Cond.eq (sTm 9) (sTm 5)) ∈ gvL := List.mem_of_getElem? (i := 353) (by decide +kernel)
theorem gvp_10_5 : Cond.not (Cond.eq (sTm 10) (sTm 5)) ∈ gvL := List.mem_of_getElem? (i := 354) (by decide +kernel)
theorem gvp_0_11 : Cond.not (Cond.eq (sTm 0) (sTm 11)) ∈ gvL := List.mem_of_getElem? (i := 366) (by decide +kernel)
theorem gvp_1_11 : Cond.not (Cond.eq (sTm 1) (sTm 11)) ∈ gvL := List.mem_of_getElem? (i := 367) (by decide +kernel)
theorem gvp_2_11 : Cond.not (Cond.eq (sTm 2) (sTm 11)) ∈ gvL := List.mem_of_getElem? (i := 368) (by decide +kernel)
theorem gvp_3_11 : Cond.not (Cond.eq (sTm 3) (sTm 11)) ∈ gvL := List.mem_of_getElem? (i := 369) (by decide +kernel)
theorem gvp_4_11 : Cond.not (Cond.eq (sTm 4) (sTm 11)) ∈ gvL := List.mem_of_getElem? (i := 370) (by decide +kernel)
theorem gvp_6_11 : Cond.not (Cond.eq (sTm 6) (sTm 11)) ∈ gvL := List.mem_of_getElem? (i := 371) (by decide +kernel)
theorem gvp_7_11 : Cond.not (Cond.eq (sTm 7) (sTm 11)) ∈ gvL := List.mem_of_getElem? (i := 372) (by decide +kernel)
theorem gvp_8_11 : Cond.not (Cond.eq (sTm 8) (sTm 11)) ∈ gvL := List.mem_of_getElem? (i := 373) (by decide +kernel)
theorem gvp_9_11 : Cond.not (Cond.eq (sTm 9) (sTm 11)) ∈ gvL := List.mem_of_getElem? (i := 374) (by decide +kernel)
theorem gvp_10_11 : Cond.not (Cond.eq (sTm 10) (sTm 11)) ∈ gvL := List.mem_of_getElem? (i := 375) (by decide +kernel)
theorem gvp_5_11 : Cond.not (Cond.eq (sTm 5) (sTm 11)) ∈ gvL := List.mem_of_getElem? (i := 376) (by decide +kernel)
theorem gv_pr : ∀ q ∈ gvP, Cond.not (Cond.eq (sTm q.1) (sTm q.2)) ∈ gvL := List.forall_mem_cons.mpr ⟨gvp_0_1, List.forall_mem_cons.mpr ⟨gvp_0_2, List.forall_mem_cons.mpr ⟨gvp_1_2, List.forall_mem_cons.mpr ⟨gvp_0_3, List.forall_mem_cons.mpr ⟨gvp_1_3, List.forall_mem_cons.mpr ⟨gvp_2_3, List.forall_mem_cons.mpr ⟨gvp_0_4, List.forall_mem_cons.mpr ⟨gvp_1_4, List.forall_mem_cons.mpr ⟨gvp_2_4, List.forall_mem_cons.mpr ⟨gvp_3_4, List.forall_mem_cons.mpr ⟨gvp_0_6, List.forall_mem_cons.mpr ⟨gvp_1_6, List.forall_mem_cons.mpr ⟨gvp_2_6, List.forall_mem_cons.mpr ⟨gvp_3_6, List.forall_mem_cons.mpr ⟨gvp_4_6, List.forall_mem_cons.mpr ⟨gvp_0_7, List.forall_mem_cons.mpr ⟨gvp_1_7, List.forall_mem_cons.mpr ⟨gvp_2_7, List.forall_mem_cons.mpr ⟨gvp_3_7, List.forall_mem_cons.mpr ⟨gvp_4_7, List.forall_mem_cons.mpr ⟨gvp_6_7, List.forall_mem_cons.mpr ⟨gvp_0_8, List.forall_mem_cons.mpr ⟨gvp_1_8, List.forall_mem_cons.mpr ⟨gvp_2_8, List.forall_mem_cons.mpr ⟨gvp_3_8, List.forall_mem_cons.mpr ⟨gvp_4_8, List.forall_mem_cons.mpr ⟨gvp_6_8, List.forall_mem_cons.mpr ⟨gvp_7_8, List.forall_mem_cons.mpr ⟨gvp_0_9, List.forall_mem_cons.mpr ⟨gvp_1_9, List.forall_mem_cons.mpr ⟨gvp_2_9, List.forall_mem_cons.mpr ⟨gvp_3_9, List.forall_mem_cons.mpr ⟨gvp_4_9, List.forall_mem_cons.mpr ⟨gvp_6_9, List.forall_mem_cons.mpr ⟨gvp_7_9, List.forall_mem_cons.mpr ⟨gvp_8_9, List.forall_mem_cons.mpr ⟨gvp_0_10, List.forall_mem_cons.mpr ⟨gvp_1_10, List.forall_mem_cons.mpr ⟨gvp_2_10, List.forall_mem_cons.mpr ⟨gvp_3_10, List.forall_mem_cons.mpr ⟨gvp_4_10, List.forall_mem_cons.mpr ⟨gvp_6_10, List.forall_mem_cons.mpr ⟨gvp_7_10, List.forall_mem_cons.mpr ⟨gvp_8_10, List.forall_mem_cons.mpr ⟨gvp_9_10, List.forall_mem_cons.mpr ⟨gvp_0_5, List.forall_mem_cons.mpr ⟨gvp_1_5, List.forall_mem_cons.mpr ⟨gvp_2_5, List.forall_mem_cons.mpr ⟨gvp_3_5, List.forall_mem_cons.mpr ⟨gvp_4_5, List.forall_mem_cons.mpr ⟨gvp_6_5, List.forall_mem_cons.mpr ⟨gvp_7_5, List.forall_mem_cons.mpr ⟨gvp_8_5, List.forall_mem_cons.mpr ⟨gvp_9_5, List.forall_mem_cons.mpr ⟨gvp_10_5, List.forall_mem_cons.mpr ⟨gvp_0_11, List.forall_mem_cons.mpr ⟨gvp_1_11, List.forall_mem_cons.mpr ⟨gvp_2_11, List.forall_mem_cons.mpr ⟨gvp_3_11, List.forall_mem_cons.mpr ⟨gvp_4_11, List.forall_mem_cons.mpr ⟨gvp_6_11, List.forall_mem_cons.mpr ⟨gvp_7_11, List.forall_mem_cons.mpr ⟨gvp_8_11, List.forall_mem_cons.mpr ⟨gvp_9_11, List.forall_mem_cons.mpr ⟨gvp_10_11, List.forall_mem_cons.mpr ⟨gvp_5_11, fun _ h => absurd h List.not_mem_nil⟩⟩⟩⟩⟩⟩⟩⟩⟩⟩⟩⟩⟩⟩⟩⟩⟩⟩⟩⟩⟩⟩⟩⟩⟩⟩⟩⟩⟩⟩⟩⟩⟩⟩⟩⟩⟩⟩⟩⟩⟩⟩⟩⟩⟩⟩⟩⟩⟩⟩⟩⟩⟩⟩⟩⟩⟩⟩⟩⟩⟩⟩⟩⟩⟩⟩
theorem gvP_all : (List.range 12).all (fun i => (List.range 12).all (fun j => i == j || (gvP.contains (i, j) || gvP.contains (j, i)))) = true := by decide +kernel
theorem gv_ne (i : Nat) (hi : i < 12) (j : Nat) (hj : j < 12) (hn : i ≠ j) : Cond.not (Cond.eq (sTm i) (sTm j)) ∈ gvL ∨ Cond.not (Cond.eq (sTm j) (sTm i)) ∈ gvL := by
  have h := List.all_eq_true.mp (List.all_eq_true.mp gvP_all i (List.mem_range.mpr hi)) j (List.mem_range.mpr hj)
  rcases Bool.or_eq_true _ _ |>.mp h with h | h
  · exact absurd (eq_of_beq h) hn
  rcases Bool.or_eq_true _ _ |>.mp h with h | h
  · exact Or.inl (gv_pr (i, j) (List.contains_iff_mem.mp h))
  · exact Or.inr (gv_pr (j, i) (List.contains_iff_mem.mp h))
theorem gv_sr : ∀ i : Nat, i < 12 → Cond.stringRef (sOwn i) (sIdx i) (sTx i) ∈ lw_tbl := by decide +kernel
theorem gv_nc : ∀ q ∈ lw_nc, Cond.not (.castable q.1 q.2) ∈ gvL := by decide +kernel
theorem gv_st : ∀ j : Nat, j < 7 → Cond.eq (.elem (.static "BellObservatory$Orders" "STARTS" "[C") (.int (Int32.ofNat j))) (.int (([104, 98, 101, 114, 112, 116, 119] : List Int32).getD j 0)) ∈ gvL := by decide +kernel
theorem st_EV {s : State} {args : Array Value} (hts : ∀ w ∈ lw_tbl, w.before args s = true) (hs : ∀ w ∈ gvL, w.before args s = true) : ∃ (ak av : Nat → Nat) (aS : Nat), EV ak av aS (fun q : Nat => s.heap.size ≤ q) s s.heap := by
  have hA : ∀ a : Nat, a < s.heap.size → ¬ (fun q : Nat => s.heap.size ≤ q) a := fun a h => Nat.not_le.mpr h
  obtain ⟨ak, av, hS, hak⟩ := vk_Sof (N := 12) (tm := sTm) (len := sLen) (byt := sByt) (by decide) (fun i hi => hs _ (gv_ex i hi)) (fun i hi => hs _ (gv_co i hi)) (fun i hi => hs _ (gv_ar i hi)) (fun i hi => hs _ (gv_le i hi)) (fun i hi j hj => hs _ (gv_el i hi j hj)) (fun i j hi hj hn => (gv_ne i hi j hj hn).imp (hs _) (hs _)) hA
  obtain ⟨aS, ht, hT⟩ := va_Tof (N := 7) (f := sSt) (tm := .static "BellObservatory$Orders" "STARTS" "[C") (ty := .char) (by decide) (hs _ (by decide +kernel)) (va_eqt (hs (Cond.eq (.length (.static "BellObservatory$Orders" "STARTS" "[C")) (.int 7)) (by decide +kernel))) (fun j hj => va_eqt (hs _ (gv_st j hj))) hA
  refine ⟨ak, av, aS, ⟨⟨?_, ?_⟩, hS, fun i hi => vk_R.of (hts _ (gv_sr i hi)) (hak i hi)⟩, ⟨⟨?_, hT⟩, ?_⟩, fun q hq => va_Nc.of (hs _ (gv_nc q hq)), ?_⟩
  · exact vx_Zqof (hts _ (by decide +kernel)) (hts _ (by decide +kernel)) (hs _ (by decide +kernel)) hA
  · exact vx_Zqof (hts _ (by decide +kernel)) (hts _ (by decide +kernel)) (hs _ (by decide +kernel)) hA
  · exact va_Zref (hts _ (by decide +kernel)) (hts _ (by decide +kernel)) ht hA
  · exact va_Zof (hts _ (by decide +kernel)) (hts _ (by decide +kernel)) (va_eqt (hs _ (by decide +kernel))) hA
  · exact vx_Zqof (hts _ (by decide +kernel)) (hts _ (by decide +kernel)) (hs _ (by decide +kernel)) hA
