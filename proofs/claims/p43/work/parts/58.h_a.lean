theorem qK_L_7 : Cond.constant RL 7 (40503 : Int32) ∈ lw_all := lw_m (lw_i2 (List.mem_of_getElem? (i := 47) (by decide +kernel))) (by decide +kernel)
theorem qK_L_313 : Cond.constantLong RL 313 (7 : Int64) ∈ lw_all := lw_m (lw_i7 (List.mem_of_getElem? (i := 67) (by decide +kernel))) (by decide +kernel)
theorem qK_L_315 : Cond.constantLong RL 315 (31 : Int64) ∈ lw_all := lw_m (lw_i7 (List.mem_of_getElem? (i := 68) (by decide +kernel))) (by decide +kernel)
theorem qK_L_317 : Cond.constantLong RL 317 (37 : Int64) ∈ lw_all := lw_m (lw_i7 (List.mem_of_getElem? (i := 69) (by decide +kernel))) (by decide +kernel)
theorem qK_L_319 : Cond.constantLong RL 319 (41 : Int64) ∈ lw_all := lw_m (lw_i7 (List.mem_of_getElem? (i := 70) (by decide +kernel))) (by decide +kernel)
theorem qK_L_321 : Cond.constantLong RL 321 (43 : Int64) ∈ lw_all := lw_m (lw_i7 (List.mem_of_getElem? (i := 71) (by decide +kernel))) (by decide +kernel)
theorem qK_L_323 : Cond.constantLong RL 323 (47 : Int64) ∈ lw_all := lw_m (lw_i7 (List.mem_of_getElem? (i := 72) (by decide +kernel))) (by decide +kernel)
theorem dL_house_0 : decode cL_house 0 = .ok (.aload_n 0, 1) := by decide +kernel
theorem dL_house_1 : decode cL_house 1 = .ok (.iload_n 1, 1) := by decide +kernel
theorem dL_house_2 : decode cL_house 2 = .ok (.iload_n 2, 1) := by decide +kernel
theorem dL_house_3 : decode cL_house 3 = .ok (.iload_n 3, 1) := by decide +kernel
theorem dL_house_4 : decode cL_house 4 = .ok (.invokevirtual 8, 3) := by decide +kernel
theorem dL_house_7 : decode cL_house 7 = .ok (.ireturn, 1) := by decide +kernel
theorem dL_house_8 : decode cL_house 8 = .ok (.astore 4, 2) := by decide +kernel
theorem dL_house_10 : decode cL_house 10 = .ok (.iconst (-1), 1) := by decide +kernel
theorem dL_house_11 : decode cL_house 11 = .ok (.ireturn, 1) := by decide +kernel
theorem dL_house_12 : decode cL_house 12 = .ok (.astore 4, 2) := by decide +kernel
theorem dL_house_14 : decode cL_house 14 = .ok (.bipush (-2), 2) := by decide +kernel
theorem dL_house_16 : decode cL_house 16 = .ok (.ireturn, 1) := by decide +kernel
theorem qw_L_house : Cond.codeWith yL_house cL_house 5 (some .int) [(0, 7, 8, 14), (0, 7, 12, 16)] ∈ lw_all := lw_m (lw_i3 (List.mem_of_getElem? (i := 4) (by decide +kernel))) (by decide +kernel)
theorem k_L_house : cardS yL_house (Cond.codeWith yL_house cL_house 5 (some .int) [(0, 7, 8, 14), (0, 7, 12, 16)]) 4 := ⟨qs_L_house, qw_L_house, qn_L, by decide +kernel, by decide +kernel, by decide +kernel⟩
def F_L_house (p1 : Int32) (p2 : Int32) (p3 : Int32) (x : XVal) : Option (Int32 × XVal) :=
  bnd (G_house p1 p2 p3 x) (fun r => brn (r.1 = 0) (some (r.2.1, r.2.2)) (brn (r.1 = 2) (some ((-1 : Int32), r.2.2)) (brn (r.1 = 3) (some ((-2 : Int32), r.2.2)) (none))))
set_option maxHeartbeats 4000000 in
set_option maxRecDepth 100000 in
theorem c_L_house (l : Launch) (hfl : l.stackTraces = false) (ev : LEv) (D : va_G) (g : Nat → ClassId) (ad : Nat → Nat → Nat) (ax : Nat → Nat) (p1 : Int32) (p2 : Int32) (p3 : Int32) (x : XVal) (o : Int32 × XVal) (h : F_L_house p1 p2 p3 x = some o) : MG l yL_house (Cond.codeWith yL_house cL_house 5 (some .int) [(0, 7, 8, 14), (0, 7, 12, 16)]) { frames := 10, cells := 3, slots := 18, locals := 173 } (KF ev) D g [.ref (ax 0), .int p1, .int p2, .int p3] (OW g ax ad x) (some (.int o.1)) (OW g ax ad o.2) 3 18 := by
  obtain ⟨⟨k, v, x2⟩, e1, h⟩ := bnd_p h
  obtain ⟨wc, wc', hN, b1, b2⟩ := nx_house l hfl ev.ak ev.av ev.aS D g ad ax p1 p2 p3 x k v x2 e1
  refine z_gh_start (by decide) (Nat.le_of_ble_eq_true rfl) ?_
  intro p e s m args below meth c Q A X hr hK hA ht hQ
  have hE := hK.1
  refine z_lv (lv' := [(0, .ref (ax 0)), (1, .int p1), (2, .int p2), (3, .int p3)]) rfl ?_
  refine z_aload_n X 0 dL_house_0 rfl rfl ?_
  refine z_iload_n X 1 dL_house_1 rfl rfl ?_
  refine z_iload_n X 2 dL_house_2 rfl rfl ?_
  refine z_iload_n X 3 dL_house_3 rfl rfl ?_
  refine z_exV (rest := []) (q0 := 0) (ci := 11) (ws' := OW g ax ad x2) X hE hA k_X11_house hN ql_L_X11_house dL_house_4 b1 b2 rfl rfl OW_0 rfl rfl ⟨Nat.le_of_ble_eq_true rfl, Nat.le_of_ble_eq_true rfl, rfl, rfl, Nat.le_of_ble_eq_true rfl, Nat.le_of_ble_eq_true rfl⟩ (Nat.le_of_ble_eq_true rfl) (fun hx => ?_) (fun hx => ?_)
  · have h := brn_t h hx
    cases h
    exact z_lret X hQ (Nat.le_of_ble_eq_true rfl) (Nat.le_of_ble_eq_true rfl) hr dL_house_7
  · have h := brn_f h hx
    by_cases n0 : k = 2
    · have h := brn_t h n0
      cases h
      rw [n0]
      refine z_catch (name := "java/lang/IllegalArgumentException") X [] ⟨0, 7, 8, 14⟩ [⟨0, 7, 12, 16⟩] (ht.trans rfl) (fun _ hz => absurd hz List.not_mem_nil) (by decide) (by decide) qk_L_IllegalArgumentException qca_IllegalArgumentException_IllegalArgumentException (fun q9 => ?_)
      refine z_astore X ((4, .ref q9) :: [(0, .ref (ax 0)), (1, .int p1), (2, .int p2), (3, .int p3)]) dL_house_8 (by decide) rfl ?_
      refine z_iconst X (-1 : Int32) dL_house_10 (by decide) ?_
      exact z_lret X hQ (Nat.le_of_ble_eq_true rfl) (Nat.le_of_ble_eq_true rfl) hr dL_house_11
    have h := brn_f h n0
    by_cases n1 : k = 3
    · have h := brn_t h n1
      cases h
      rw [n1]
      refine z_catch (name := "java/lang/UnsupportedOperationException") X [⟨0, 7, 8, 14⟩] ⟨0, 7, 12, 16⟩ [] (ht.trans rfl) (List.forall_mem_cons.mpr ⟨⟨by decide, _, qk_L_IllegalArgumentException, hE.2.2.1 ("java/lang/UnsupportedOperationException", "java/lang/IllegalArgumentException") (by decide +kernel)⟩, fun _ hz => absurd hz List.not_mem_nil⟩) (by decide) (by decide) qk_L_UnsupportedOperationException qca_UnsupportedOperationException_UnsupportedOperationException (fun q9 => ?_)
      refine z_astore X ((4, .ref q9) :: [(0, .ref (ax 0)), (1, .int p1), (2, .int p2), (3, .int p3)]) dL_house_12 (by decide) rfl ?_
      refine z_bipush X (-2 : Int32) dL_house_14 (by decide) ?_
      exact z_lret X hQ (Nat.le_of_ble_eq_true rfl) (Nat.le_of_ble_eq_true rfl) hr dL_house_16
    have h := brn_f h n1
    cases h

theorem dL_goAway_0 : decode cL_goAway 0 = .ok (.aload_n 0, 1) := by decide +kernel
theorem dL_goAway_1 : decode cL_goAway 1 = .ok (.iload_n 1, 1) := by decide +kernel
theorem dL_goAway_2 : decode cL_goAway 2 = .ok (.invokevirtual 18, 3) := by decide +kernel
theorem dL_goAway_5 : decode cL_goAway 5 = .ok (.ireturn, 1) := by decide +kernel
theorem dL_goAway_6 : decode cL_goAway 6 = .ok (.astore_n 2, 1) := by decide +kernel
theorem dL_goAway_7 : decode cL_goAway 7 = .ok (.iconst (-1), 1) := by decide +kernel
theorem dL_goAway_8 : decode cL_goAway 8 = .ok (.ireturn, 1) := by decide +kernel
theorem qw_L_goAway : Cond.codeWith yL_goAway cL_goAway 3 (some .int) [(0, 5, 6, 22)] ∈ lw_all := lw_m (lw_i7 (List.mem_of_getElem? (i := 75) (by decide +kernel))) (by decide +kernel)
theorem k_L_goAway : cardS yL_goAway (Cond.codeWith yL_goAway cL_goAway 3 (some .int) [(0, 5, 6, 22)]) 2 := ⟨qs_L_goAway, qw_L_goAway, qn_L, by decide +kernel, by decide +kernel, by decide +kernel⟩
def F_L_goAway (p1 : Int32) (x : XVal) : Option (Int32 × XVal) :=
  bnd (G_goAway p1 x) (fun r => brn (r.1 = 0) (some (r.2.1, r.2.2)) (brn (r.1 = 1) (some ((-1 : Int32), r.2.2)) (none)))
set_option maxHeartbeats 4000000 in
set_option maxRecDepth 100000 in
theorem c_L_goAway (l : Launch) (hfl : l.stackTraces = false) (ev : LEv) (D : va_G) (g : Nat → ClassId) (ad : Nat → Nat → Nat) (ax : Nat → Nat) (p1 : Int32) (x : XVal) (o : Int32 × XVal) (h : F_L_goAway p1 x = some o) : MG l yL_goAway (Cond.codeWith yL_goAway cL_goAway 3 (some .int) [(0, 5, 6, 22)]) { frames := 9, cells := 1, slots := 6, locals := 151 } (KF ev) D g [.ref (ax 0), .int p1] (OW g ax ad x) (some (.int o.1)) (OW g ax ad o.2) 1 6 := by
  obtain ⟨⟨k, v, x2⟩, e1, h⟩ := bnd_p h
  obtain ⟨wc, wc', hN, b1, b2⟩ := nx_goAway l hfl ev.ak ev.av ev.aS D g ad ax p1 x k v x2 e1
  refine z_gh_start (by decide) (Nat.le_of_ble_eq_true rfl) ?_
  intro p e s m args below meth c Q A X hr hK hA ht hQ
  have hE := hK.1
  refine z_lv (lv' := [(0, .ref (ax 0)), (1, .int p1)]) rfl ?_
  refine z_aload_n X 0 dL_goAway_0 rfl rfl ?_
  refine z_iload_n X 1 dL_goAway_1 rfl rfl ?_
  refine z_exV (rest := []) (q0 := 0) (ci := 11) (ws' := OW g ax ad x2) X hE hA k_X11_goAway hN ql_L_X11_goAway dL_goAway_2 b1 b2 rfl rfl OW_0 rfl rfl ⟨Nat.le_of_ble_eq_true rfl, Nat.le_of_ble_eq_true rfl, rfl, rfl, Nat.le_of_ble_eq_true rfl, Nat.le_of_ble_eq_true rfl⟩ (Nat.le_of_ble_eq_true rfl) (fun hx => ?_) (fun hx => ?_)
  · have h := brn_t h hx
    cases h
    exact z_lret X hQ (Nat.le_of_ble_eq_true rfl) (Nat.le_of_ble_eq_true rfl) hr dL_goAway_5
  · have h := brn_f h hx
    by_cases n0 : k = 1
    · have h := brn_t h n0
      cases h
      rw [n0]
      refine z_catch (name := "java/lang/IndexOutOfBoundsException") X [] ⟨0, 5, 6, 22⟩ [] (ht.trans rfl) (fun _ hz => absurd hz List.not_mem_nil) (by decide) (by decide) qk_L_IndexOutOfBoundsException qca_IndexOutOfBoundsException_IndexOutOfBoundsException (fun q9 => ?_)
      refine z_astore_n X ((2, .ref q9) :: [(0, .ref (ax 0)), (1, .int p1)]) dL_goAway_6 rfl (by decide) rfl ?_
      refine z_iconst X (-1 : Int32) dL_goAway_7 (by decide) ?_
      exact z_lret X hQ (Nat.le_of_ble_eq_true rfl) (Nat.le_of_ble_eq_true rfl) hr dL_goAway_8
    have h := brn_f h n0
    cases h

theorem dL_block_0 : decode cL_block 0 = .ok (.aload_n 0, 1) := by decide +kernel
theorem dL_block_1 : decode cL_block 1 = .ok (.iload_n 1, 1) := by decide +kernel
theorem dL_block_2 : decode cL_block 2 = .ok (.invokevirtual 24, 3) := by decide +kernel
theorem dL_block_5 : decode cL_block 5 = .ok (.ifCond .eq 7, 3) := by decide +kernel
theorem dL_block_8 : decode cL_block 8 = .ok (.iconst 1, 1) := by decide +kernel
theorem dL_block_9 : decode cL_block 9 = .ok (.goto 4, 3) := by decide +kernel
theorem dL_block_12 : decode cL_block 12 = .ok (.iconst 0, 1) := by decide +kernel
theorem dL_block_13 : decode cL_block 13 = .ok (.ireturn, 1) := by decide +kernel
theorem dL_block_14 : decode cL_block 14 = .ok (.astore_n 2, 1) := by decide +kernel
theorem dL_block_15 : decode cL_block 15 = .ok (.iconst (-1), 1) := by decide +kernel
theorem dL_block_16 : decode cL_block 16 = .ok (.ireturn, 1) := by decide +kernel
theorem dL_block_17 : decode cL_block 17 = .ok (.astore_n 2, 1) := by decide +kernel
theorem dL_block_18 : decode cL_block 18 = .ok (.bipush (-2), 2) := by decide +kernel
theorem dL_block_20 : decode cL_block 20 = .ok (.ireturn, 1) := by decide +kernel
theorem qw_L_block : Cond.codeWith yL_block cL_block 3 (some .int) [(0, 13, 14, 14), (0, 13, 17, 16)] ∈ lw_all := lw_m (lw_i2 (List.mem_of_getElem? (i := 50) (by decide +kernel))) (by decide +kernel)
theorem k_L_block : cardS yL_block (Cond.codeWith yL_block cL_block 3 (some .int) [(0, 13, 14, 14), (0, 13, 17, 16)]) 2 := ⟨qs_L_block, qw_L_block, qn_L, by decide +kernel, by decide +kernel, by decide +kernel⟩
def F_L_block (p1 : Int32) (x : XVal) : Option (Int32 × XVal) :=
  bnd (G_block p1 x) (fun r => brn (r.1 = 0) (brn (r.2.1 = 0) (some ((0 : Int32), r.2.2)) (some ((1 : Int32), r.2.2))) (brn (r.1 = 2) (some ((-1 : Int32), r.2.2)) (brn (r.1 = 3) (some ((-2 : Int32), r.2.2)) (none))))
set_option maxHeartbeats 4000000 in
set_option maxRecDepth 100000 in
theorem c_L_block (l : Launch) (hfl : l.stackTraces = false) (ev : LEv) (D : va_G) (g : Nat → ClassId) (ad : Nat → Nat → Nat) (ax : Nat → Nat) (p1 : Int32) (x : XVal) (o : Int32 × XVal) (h : F_L_block p1 x = some o) : MG l yL_block (Cond.codeWith yL_block cL_block 3 (some .int) [(0, 13, 14, 14), (0, 13, 17, 16)]) { frames := 10, cells := 3, slots := 18, locals := 171 } (KF ev) D g [.ref (ax 0), .int p1] (OW g ax ad x) (some (.int o.1)) (OW g ax ad o.2) 3 18 := by
  obtain ⟨⟨k, v, x2⟩, e1, h⟩ := bnd_p h
  obtain ⟨wc, wc', hN, b1, b2⟩ := nx_block l hfl ev.ak ev.av ev.aS D g ad ax p1 x k v x2 e1
  refine z_gh_start (by decide) (Nat.le_of_ble_eq_true rfl) ?_
  intro p e s m args below meth c Q A X hr hK hA ht hQ
  have hE := hK.1
  refine z_lv (lv' := [(0, .ref (ax 0)), (1, .int p1)]) rfl ?_
  refine z_aload_n X 0 dL_block_0 rfl rfl ?_
  refine z_iload_n X 1 dL_block_1 rfl rfl ?_
  refine z_exV (rest := []) (q0 := 0) (ci := 11) (ws' := OW g ax ad x2) X hE hA k_X11_block hN ql_L_X11_block dL_block_2 b1 b2 rfl rfl OW_0 rfl rfl ⟨Nat.le_of_ble_eq_true rfl, Nat.le_of_ble_eq_true rfl, rfl, rfl, Nat.le_of_ble_eq_true rfl, Nat.le_of_ble_eq_true rfl⟩ (Nat.le_of_ble_eq_true rfl) (fun hx => ?_) (fun hx => ?_)
  · have h := brn_t h hx
    refine z_if_eq X 12 dL_block_5 (by decide) h (fun _ h => ?_) (fun _ h => ?_)
    · refine z_iconst X (0 : Int32) dL_block_12 (by decide) ?_
      cases h
      exact z_lret X hQ (Nat.le_of_ble_eq_true rfl) (Nat.le_of_ble_eq_true rfl) hr dL_block_13
    · refine z_iconst X (1 : Int32) dL_block_8 (by decide) ?_
      refine z_goto X 13 dL_block_9 (by decide) ?_
      cases h
      exact z_lret X hQ (Nat.le_of_ble_eq_true rfl) (Nat.le_of_ble_eq_true rfl) hr dL_block_13
  · have h := brn_f h hx
    by_cases n0 : k = 2
    · have h := brn_t h n0
      cases h
      rw [n0]
      refine z_catch (name := "java/lang/IllegalArgumentException") X [] ⟨0, 13, 14, 14⟩ [⟨0, 13, 17, 16⟩] (ht.trans rfl) (fun _ hz => absurd hz List.not_mem_nil) (by decide) (by decide) qk_L_IllegalArgumentException qca_IllegalArgumentException_IllegalArgumentException (fun q9 => ?_)
      refine z_astore_n X ((2, .ref q9) :: [(0, .ref (ax 0)), (1, .int p1)]) dL_block_14 rfl (by decide) rfl ?_
      refine z_iconst X (-1 : Int32) dL_block_15 (by decide) ?_
      exact z_lret X hQ (Nat.le_of_ble_eq_true rfl) (Nat.le_of_ble_eq_true rfl) hr dL_block_16
    have h := brn_f h n0
    by_cases n1 : k = 3
    · have h := brn_t h n1
      cases h
      rw [n1]
      refine z_catch (name := "java/lang/UnsupportedOperationException") X [⟨0, 13, 14, 14⟩] ⟨0, 13, 17, 16⟩ [] (ht.trans rfl) (List.forall_mem_cons.mpr ⟨⟨by decide, _, qk_L_IllegalArgumentException, hE.2.2.1 ("java/lang/UnsupportedOperationException", "java/lang/IllegalArgumentException") (by decide +kernel)⟩, fun _ hz => absurd hz List.not_mem_nil⟩) (by decide) (by decide) qk_L_UnsupportedOperationException qca_UnsupportedOperationException_UnsupportedOperationException (fun q9 => ?_)
      refine z_astore_n X ((2, .ref q9) :: [(0, .ref (ax 0)), (1, .int p1)]) dL_block_17 rfl (by decide) rfl ?_
      refine z_bipush X (-2 : Int32) dL_block_18 (by decide) ?_
      exact z_lret X hQ (Nat.le_of_ble_eq_true rfl) (Nat.le_of_ble_eq_true rfl) hr dL_block_20
    have h := brn_f h n1
    cases h

theorem dL_hall_0 : decode cL_hall 0 = .ok (.aload_n 0, 1) := by decide +kernel
theorem dL_hall_1 : decode cL_hall 1 = .ok (.iload_n 1, 1) := by decide +kernel
theorem dL_hall_2 : decode cL_hall 2 = .ok (.iload_n 2, 1) := by decide +kernel
theorem dL_hall_3 : decode cL_hall 3 = .ok (.iload_n 3, 1) := by decide +kernel
theorem dL_hall_4 : decode cL_hall 4 = .ok (.invokevirtual 28, 3) := by decide +kernel
theorem dL_hall_7 : decode cL_hall 7 = .ok (.ireturn, 1) := by decide +kernel
theorem dL_hall_8 : decode cL_hall 8 = .ok (.astore 4, 2) := by decide +kernel
theorem dL_hall_10 : decode cL_hall 10 = .ok (.iconst (-1), 1) := by decide +kernel
theorem dL_hall_11 : decode cL_hall 11 = .ok (.ireturn, 1) := by decide +kernel
theorem dL_hall_12 : decode cL_hall 12 = .ok (.astore 4, 2) := by decide +kernel
theorem dL_hall_14 : decode cL_hall 14 = .ok (.bipush (-2), 2) := by decide +kernel
theorem dL_hall_16 : decode cL_hall 16 = .ok (.ireturn, 1) := by decide +kernel
theorem qw_L_hall : Cond.codeWith yL_hall cL_hall 5 (some .int) [(0, 7, 8, 14), (0, 7, 12, 16)] ∈ lw_all := lw_m (lw_i3 (List.mem_of_getElem? (i := 59) (by decide +kernel))) (by decide +kernel)
theorem k_L_hall : cardS yL_hall (Cond.codeWith yL_hall cL_hall 5 (some .int) [(0, 7, 8, 14), (0, 7, 12, 16)]) 4 := ⟨qs_L_hall, qw_L_hall, qn_L, by decide +kernel, by decide +kernel, by decide +kernel⟩
def F_L_hall (p1 : Int32) (p2 : Int32) (p3 : Int32) (x : XVal) : Option (Int32 × XVal) :=
  bnd (G_hall p1 p2 p3 x) (fun r => brn (r.1 = 0) (some (r.2.1, r.2.2)) (brn (r.1 = 2) (some ((-1 : Int32), r.2.2)) (brn (r.1 = 3) (some ((-2 : Int32), r.2.2)) (none))))
set_option maxHeartbeats 4000000 in
set_option maxRecDepth 100000 in
theorem c_L_hall (l : Launch) (hfl : l.stackTraces = false) (ev : LEv) (D : va_G) (g : Nat → ClassId) (ad : Nat → Nat → Nat) (ax : Nat → Nat) (p1 : Int32) (p2 : Int32) (p3 : Int32) (x : XVal) (o : Int32 × XVal) (h : F_L_hall p1 p2 p3 x = some o) : MG l yL_hall (Cond.codeWith yL_hall cL_hall 5 (some .int) [(0, 7, 8, 14), (0, 7, 12, 16)]) { frames := 10, cells := 3, slots := 18, locals := 173 } (KF ev) D g [.ref (ax 0), .int p1, .int p2, .int p3] (OW g ax ad x) (some (.int o.1)) (OW g ax ad o.2) 3 18 := by
  obtain ⟨⟨k, v, x2⟩, e1, h⟩ := bnd_p h
  obtain ⟨wc, wc', hN, b1, b2⟩ := nx_hall l hfl ev.ak ev.av ev.aS D g ad ax p1 p2 p3 x k v x2 e1
  refine z_gh_start (by decide) (Nat.le_of_ble_eq_true rfl) ?_
  intro p e s m args below meth c Q A X hr hK hA ht hQ
  have hE := hK.1
  refine z_lv (lv' := [(0, .ref (ax 0)), (1, .int p1), (2, .int p2), (3, .int p3)]) rfl ?_
  refine z_aload_n X 0 dL_hall_0 rfl rfl ?_
  refine z_iload_n X 1 dL_hall_1 rfl rfl ?_
  refine z_iload_n X 2 dL_hall_2 rfl rfl ?_
  refine z_iload_n X 3 dL_hall_3 rfl rfl ?_
  refine z_exV (rest := []) (q0 := 0) (ci := 11) (ws' := OW g ax ad x2) X hE hA k_X11_hall hN ql_L_X11_hall dL_hall_4 b1 b2 rfl rfl OW_0 rfl rfl ⟨Nat.le_of_ble_eq_true rfl, Nat.le_of_ble_eq_true rfl, rfl, rfl, Nat.le_of_ble_eq_true rfl, Nat.le_of_ble_eq_true rfl⟩ (Nat.le_of_ble_eq_true rfl) (fun hx => ?_) (fun hx => ?_)
  · have h := brn_t h hx
    cases h
    exact z_lret X hQ (Nat.le_of_ble_eq_true rfl) (Nat.le_of_ble_eq_true rfl) hr dL_hall_7
  · have h := brn_f h hx
    by_cases n0 : k = 2
    · have h := brn_t h n0
      cases h
      rw [n0]
      refine z_catch (name := "java/lang/IllegalArgumentException") X [] ⟨0, 7, 8, 14⟩ [⟨0, 7, 12, 16⟩] (ht.trans rfl) (fun _ hz => absurd hz List.not_mem_nil) (by decide) (by decide) qk_L_IllegalArgumentException qca_IllegalArgumentException_IllegalArgumentException (fun q9 => ?_)
      refine z_astore X ((4, .ref q9) :: [(0, .ref (ax 0)), (1, .int p1), (2, .int p2), (3, .int p3)]) dL_hall_8 (by decide) rfl ?_
      refine z_iconst X (-1 : Int32) dL_hall_10 (by decide) ?_
      exact z_lret X hQ (Nat.le_of_ble_eq_true rfl) (Nat.le_of_ble_eq_true rfl) hr dL_hall_11
    have h := brn_f h n0
    by_cases n1 : k = 3
    · have h := brn_t h n1
      cases h
      rw [n1]
      refine z_catch (name := "java/lang/UnsupportedOperationException") X [⟨0, 7, 8, 14⟩] ⟨0, 7, 12, 16⟩ [] (ht.trans rfl) (List.forall_mem_cons.mpr ⟨⟨by decide, _, qk_L_IllegalArgumentException, hE.2.2.1 ("java/lang/UnsupportedOperationException", "java/lang/IllegalArgumentException") (by decide +kernel)⟩, fun _ hz => absurd hz List.not_mem_nil⟩) (by decide) (by decide) qk_L_UnsupportedOperationException qca_UnsupportedOperationException_UnsupportedOperationException (fun q9 => ?_)
      refine z_astore X ((4, .ref q9) :: [(0, .ref (ax 0)), (1, .int p1), (2, .int p2), (3, .int p3)]) dL_hall_12 (by decide) rfl ?_
      refine z_bipush X (-2 : Int32) dL_hall_14 (by decide) ?_
      exact z_lret X hQ (Nat.le_of_ble_eq_true rfl) (Nat.le_of_ble_eq_true rfl) hr dL_hall_16
    have h := brn_f h n1
    cases h

theorem dL_dropHall_0 : decode cL_dropHall 0 = .ok (.aload_n 0, 1) := by decide +kernel
theorem dL_dropHall_1 : decode cL_dropHall 1 = .ok (.iload_n 1, 1) := by decide +kernel
theorem dL_dropHall_2 : decode cL_dropHall 2 = .ok (.invokevirtual 31, 3) := by decide +kernel
theorem dL_dropHall_5 : decode cL_dropHall 5 = .ok (.ireturn, 1) := by decide +kernel
theorem dL_dropHall_6 : decode cL_dropHall 6 = .ok (.astore_n 2, 1) := by decide +kernel
theorem dL_dropHall_7 : decode cL_dropHall 7 = .ok (.iconst (-1), 1) := by decide +kernel
theorem dL_dropHall_8 : decode cL_dropHall 8 = .ok (.ireturn, 1) := by decide +kernel
theorem qw_L_dropHall : Cond.codeWith yL_dropHall cL_dropHall 3 (some .int) [(0, 5, 6, 22)] ∈ lw_all := lw_m (lw_i7 (List.mem_of_getElem? (i := 89) (by decide +kernel))) (by decide +kernel)
theorem k_L_dropHall : cardS yL_dropHall (Cond.codeWith yL_dropHall cL_dropHall 3 (some .int) [(0, 5, 6, 22)]) 2 := ⟨qs_L_dropHall, qw_L_dropHall, qn_L, by decide +kernel, by decide +kernel, by decide +kernel⟩
def F_L_dropHall (p1 : Int32) (x : XVal) : Option (Int32 × XVal) :=
  bnd (G_dropHall p1 x) (fun r => brn (r.1 = 0) (some (r.2.1, r.2.2)) (brn (r.1 = 1) (some ((-1 : Int32), r.2.2)) (none)))
set_option maxHeartbeats 4000000 in
set_option maxRecDepth 100000 in
theorem c_L_dropHall (l : Launch) (hfl : l.stackTraces = false) (ev : LEv) (D : va_G) (g : Nat → ClassId) (ad : Nat → Nat → Nat) (ax : Nat → Nat) (p1 : Int32) (x : XVal) (o : Int32 × XVal) (h : F_L_dropHall p1 x = some o) : MG l yL_dropHall (Cond.codeWith yL_dropHall cL_dropHall 3 (some .int) [(0, 5, 6, 22)]) { frames := 9, cells := 1, slots := 6, locals := 151 } (KF ev) D g [.ref (ax 0), .int p1] (OW g ax ad x) (some (.int o.1)) (OW g ax ad o.2) 1 6 := by
  obtain ⟨⟨k, v, x2⟩, e1, h⟩ := bnd_p h
  obtain ⟨wc, wc', hN, b1, b2⟩ := nx_dropHall l hfl ev.ak ev.av ev.aS D g ad ax p1 x k v x2 e1
  refine z_gh_start (by decide) (Nat.le_of_ble_eq_true rfl) ?_
  intro p e s m args below meth c Q A X hr hK hA ht hQ
  have hE := hK.1
  refine z_lv (lv' := [(0, .ref (ax 0)), (1, .int p1)]) rfl ?_
  refine z_aload_n X 0 dL_dropHall_0 rfl rfl ?_
  refine z_iload_n X 1 dL_dropHall_1 rfl rfl ?_
  refine z_exV (rest := []) (q0 := 0) (ci := 11) (ws' := OW g ax ad x2) X hE hA k_X11_dropHall hN ql_L_X11_dropHall dL_dropHall_2 b1 b2 rfl rfl OW_0 rfl rfl ⟨Nat.le_of_ble_eq_true rfl, Nat.le_of_ble_eq_true rfl, rfl, rfl, Nat.le_of_ble_eq_true rfl, Nat.le_of_ble_eq_true rfl⟩ (Nat.le_of_ble_eq_true rfl) (fun hx => ?_) (fun hx => ?_)
  · have h := brn_t h hx
    cases h
    exact z_lret X hQ (Nat.le_of_ble_eq_true rfl) (Nat.le_of_ble_eq_true rfl) hr dL_dropHall_5
  · have h := brn_f h hx
    by_cases n0 : k = 1
    · have h := brn_t h n0
      cases h
      rw [n0]
      refine z_catch (name := "java/lang/IndexOutOfBoundsException") X [] ⟨0, 5, 6, 22⟩ [] (ht.trans rfl) (fun _ hz => absurd hz List.not_mem_nil) (by decide) (by decide) qk_L_IndexOutOfBoundsException qca_IndexOutOfBoundsException_IndexOutOfBoundsException (fun q9 => ?_)
      refine z_astore_n X ((2, .ref q9) :: [(0, .ref (ax 0)), (1, .int p1)]) dL_dropHall_6 rfl (by decide) rfl ?_
      refine z_iconst X (-1 : Int32) dL_dropHall_7 (by decide) ?_
      exact z_lret X hQ (Nat.le_of_ble_eq_true rfl) (Nat.le_of_ble_eq_true rfl) hr dL_dropHall_8
    have h := brn_f h n0
    cases h

theorem dL_pass_0 : decode cL_pass 0 = .ok (.aload_n 0, 1) := by decide +kernel
theorem dL_pass_1 : decode cL_pass 1 = .ok (.iload_n 1, 1) := by decide +kernel
theorem dL_pass_2 : decode cL_pass 2 = .ok (.invokevirtual 34, 3) := by decide +kernel
theorem dL_pass_5 : decode cL_pass 5 = .ok (.ireturn, 1) := by decide +kernel
theorem dL_pass_6 : decode cL_pass 6 = .ok (.astore_n 2, 1) := by decide +kernel
theorem dL_pass_7 : decode cL_pass 7 = .ok (.iconst (-1), 1) := by decide +kernel
theorem dL_pass_8 : decode cL_pass 8 = .ok (.ireturn, 1) := by decide +kernel
theorem qw_L_pass : Cond.codeWith yL_pass cL_pass 3 (some .int) [(0, 5, 6, 14)] ∈ lw_all := lw_m (lw_i3 (List.mem_of_getElem? (i := 167) (by decide +kernel))) (by decide +kernel)
theorem k_L_pass : cardS yL_pass (Cond.codeWith yL_pass cL_pass 3 (some .int) [(0, 5, 6, 14)]) 2 := ⟨qs_L_pass, qw_L_pass, qn_L, by decide +kernel, by decide +kernel, by decide +kernel⟩
def F_L_pass (p1 : Int32) (x : XVal) : Option (Int32 × XVal) :=
  bnd (G_pass p1 x) (fun r => brn (r.1 = 0) (some (r.2.1, r.2.2)) (brn (r.1 = 2) (some ((-1 : Int32), r.2.2)) (none)))
set_option maxHeartbeats 4000000 in
set_option maxRecDepth 100000 in
theorem c_L_pass (l : Launch) (hfl : l.stackTraces = false) (ev : LEv) (D : va_G) (g : Nat → ClassId) (ad : Nat → Nat → Nat) (ax : Nat → Nat) (p1 : Int32) (x : XVal) (o : Int32 × XVal) (h : F_L_pass p1 x = some o) : MG l yL_pass (Cond.codeWith yL_pass cL_pass 3 (some .int) [(0, 5, 6, 14)]) { frames := 10, cells := 3, slots := 18, locals := 171 } (KF ev) D g [.ref (ax 0), .int p1] (OW g ax ad x) (some (.int o.1)) (OW g ax ad o.2) 3 18 := by
  obtain ⟨⟨k, v, x2⟩, e1, h⟩ := bnd_p h
  obtain ⟨wc, wc', hN, b1, b2⟩ := nx_pass l hfl ev.ak ev.av ev.aS D g ad ax p1 x k v x2 e1
  refine z_gh_start (by decide) (Nat.le_of_ble_eq_true rfl) ?_
  intro p e s m args below meth c Q A X hr hK hA ht hQ
  have hE := hK.1
  refine z_lv (lv' := [(0, .ref (ax 0)), (1, .int p1)]) rfl ?_
  refine z_aload_n X 0 dL_pass_0 rfl rfl ?_
  refine z_iload_n X 1 dL_pass_1 rfl rfl ?_
  refine z_exV (rest := []) (q0 := 0) (ci := 11) (ws' := OW g ax ad x2) X hE hA k_X11_pass hN ql_L_X11_pass dL_pass_2 b1 b2 rfl rfl OW_0 rfl rfl ⟨Nat.le_of_ble_eq_true rfl, Nat.le_of_ble_eq_true rfl, rfl, rfl, Nat.le_of_ble_eq_true rfl, Nat.le_of_ble_eq_true rfl⟩ (Nat.le_of_ble_eq_true rfl) (fun hx => ?_) (fun hx => ?_)
  · have h := brn_t h hx
    cases h
    exact z_lret X hQ (Nat.le_of_ble_eq_true rfl) (Nat.le_of_ble_eq_true rfl) hr dL_pass_5
  · have h := brn_f h hx
    by_cases n0 : k = 2
    · have h := brn_t h n0
      cases h
      rw [n0]
      refine z_catch (name := "java/lang/IllegalArgumentException") X [] ⟨0, 5, 6, 14⟩ [] (ht.trans rfl) (fun _ hz => absurd hz List.not_mem_nil) (by decide) (by decide) qk_L_IllegalArgumentException qca_IllegalArgumentException_IllegalArgumentException (fun q9 => ?_)
      refine z_astore_n X ((2, .ref q9) :: [(0, .ref (ax 0)), (1, .int p1)]) dL_pass_6 rfl (by decide) rfl ?_
      refine z_iconst X (-1 : Int32) dL_pass_7 (by decide) ?_
      exact z_lret X hQ (Nat.le_of_ble_eq_true rfl) (Nat.le_of_ble_eq_true rfl) hr dL_pass_8
    have h := brn_f h n0
    cases h

theorem dL_of_0 : decode cL_of 0 = .ok (.aload_n 0, 1) := by decide +kernel
theorem dL_of_1 : decode cL_of 1 = .ok (.iload_n 1, 1) := by decide +kernel
theorem dL_of_2 : decode cL_of 2 = .ok (.iload_n 2, 1) := by decide +kernel
theorem dL_of_3 : decode cL_of 3 = .ok (.invokevirtual 37, 3) := by decide +kernel
theorem dL_of_6 : decode cL_of 6 = .ok (.ireturn, 1) := by decide +kernel
theorem dL_of_7 : decode cL_of 7 = .ok (.astore_n 3, 1) := by decide +kernel
theorem dL_of_8 : decode cL_of 8 = .ok (.bipush (-11), 2) := by decide +kernel
theorem dL_of_10 : decode cL_of 10 = .ok (.ireturn, 1) := by decide +kernel
theorem dL_of_11 : decode cL_of 11 = .ok (.astore_n 3, 1) := by decide +kernel
theorem dL_of_12 : decode cL_of 12 = .ok (.bipush (-12), 2) := by decide +kernel
theorem dL_of_14 : decode cL_of 14 = .ok (.ireturn, 1) := by decide +kernel
theorem qw_L_of : Cond.codeWith yL_of cL_of 4 (some .int) [(0, 6, 7, 22), (0, 6, 11, 14)] ∈ lw_all := lw_m (lw_i4 (List.mem_of_getElem? (i := 93) (by decide +kernel))) (by decide +kernel)
theorem k_L_of : cardS yL_of (Cond.codeWith yL_of cL_of 4 (some .int) [(0, 6, 7, 22), (0, 6, 11, 14)]) 3 := ⟨qs_L_of, qw_L_of, qn_L, by decide +kernel, by decide +kernel, by decide +kernel⟩
def F_L_of (p1 : Int32) (p2 : Int32) (x : XVal) : Option (Int32) :=
  bnd (G_houseOf p1 p2 x) (fun r => brn (r.1 = 0) (some r.2.1) (brn (r.1 = 1) (some (-11 : Int32)) (brn (r.1 = 2) (some (-12 : Int32)) (none))))
set_option maxHeartbeats 4000000 in
set_option maxRecDepth 100000 in
theorem c_L_of (l : Launch) (hfl : l.stackTraces = false) (ev : LEv) (D : va_G) (g : Nat → ClassId) (ad : Nat → Nat → Nat) (ax : Nat → Nat) (p1 : Int32) (p2 : Int32) (x : XVal) (o : Int32) (h : F_L_of p1 p2 x = some o) : MG l yL_of (Cond.codeWith yL_of cL_of 4 (some .int) [(0, 6, 7, 22), (0, 6, 11, 14)]) { frames := 9, cells := 2, slots := 12, locals := 152 } (KF ev) D g [.ref (ax 0), .int p1, .int p2] (OW g ax ad x) (some (.int o)) (OW g ax ad x) 2 12 := by
  obtain ⟨⟨k, v, x2⟩, e1, h⟩ := bnd_p h
  obtain ⟨wc, wc', hN, b1, b2, ex⟩ := nx_houseOf l hfl ev.ak ev.av ev.aS D g ad ax p1 p2 x k v x2 e1
  rw [ex] at b2
  refine z_gh_start (by decide) (Nat.le_of_ble_eq_true rfl) ?_
  intro p e s m args below meth c Q A X hr hK hA ht hQ
  have hE := hK.1
  refine z_lv (lv' := [(0, .ref (ax 0)), (1, .int p1), (2, .int p2)]) rfl ?_
  refine z_aload_n X 0 dL_of_0 rfl rfl ?_
  refine z_iload_n X 1 dL_of_1 rfl rfl ?_
  refine z_iload_n X 2 dL_of_2 rfl rfl ?_
  refine z_exV (rest := []) (q0 := 0) (ci := 11) (ws' := OW g ax ad x) X hE hA k_X11_houseOf hN ql_L_X11_houseOf dL_of_3 b1 b2 rfl rfl OW_0 rfl rfl ⟨Nat.le_of_ble_eq_true rfl, Nat.le_of_ble_eq_true rfl, rfl, rfl, Nat.le_of_ble_eq_true rfl, Nat.le_of_ble_eq_true rfl⟩ (Nat.le_of_ble_eq_true rfl) (fun hx => ?_) (fun hx => ?_)
  · have h := brn_t h hx
    cases h
    exact z_lret X hQ (Nat.le_of_ble_eq_true rfl) (Nat.le_of_ble_eq_true rfl) hr dL_of_6
  · have h := brn_f h hx
    by_cases n0 : k = 1
    · have h := brn_t h n0
      cases h
      rw [n0]
      refine z_catch (name := "java/lang/IndexOutOfBoundsException") X [] ⟨0, 6, 7, 22⟩ [⟨0, 6, 11, 14⟩] (ht.trans rfl) (fun _ hz => absurd hz List.not_mem_nil) (by decide) (by decide) qk_L_IndexOutOfBoundsException qca_IndexOutOfBoundsException_IndexOutOfBoundsException (fun q9 => ?_)
      refine z_astore_n X ((3, .ref q9) :: [(0, .ref (ax 0)), (1, .int p1), (2, .int p2)]) dL_of_7 rfl (by decide) rfl ?_
      refine z_bipush X (-11 : Int32) dL_of_8 (by decide) ?_
      exact z_lret X hQ (Nat.le_of_ble_eq_true rfl) (Nat.le_of_ble_eq_true rfl) hr dL_of_10
    have h := brn_f h n0
    by_cases n1 : k = 2
    · have h := brn_t h n1
      cases h
      rw [n1]
      refine z_catch (name := "java/lang/IllegalArgumentException") X [⟨0, 6, 7, 22⟩] ⟨0, 6, 11, 14⟩ [] (ht.trans rfl) (List.forall_mem_cons.mpr ⟨⟨by decide, _, qk_L_IndexOutOfBoundsException, hE.2.2.1 ("java/lang/IllegalArgumentException", "java/lang/IndexOutOfBoundsException") (by decide +kernel)⟩, fun _ hz => absurd hz List.not_mem_nil⟩) (by decide) (by decide) qk_L_IllegalArgumentException qca_IllegalArgumentException_IllegalArgumentException (fun q9 => ?_)
      refine z_astore_n X ((3, .ref q9) :: [(0, .ref (ax 0)), (1, .int p1), (2, .int p2)]) dL_of_11 rfl (by decide) rfl ?_
      refine z_bipush X (-12 : Int32) dL_of_12 (by decide) ?_
      exact z_lret X hQ (Nat.le_of_ble_eq_true rfl) (Nat.le_of_ble_eq_true rfl) hr dL_of_14
    have h := brn_f h n1
    cases h

theorem dL_asleep_0 : decode cL_asleep 0 = .ok (.aload_n 0, 1) := by decide +kernel
theorem dL_asleep_1 : decode cL_asleep 1 = .ok (.iload_n 1, 1) := by decide +kernel
theorem dL_asleep_2 : decode cL_asleep 2 = .ok (.iload_n 2, 1) := by decide +kernel
theorem dL_asleep_3 : decode cL_asleep 3 = .ok (.invokevirtual 41, 3) := by decide +kernel
theorem dL_asleep_6 : decode cL_asleep 6 = .ok (.ireturn, 1) := by decide +kernel
theorem dL_asleep_7 : decode cL_asleep 7 = .ok (.astore_n 3, 1) := by decide +kernel
theorem dL_asleep_8 : decode cL_asleep 8 = .ok (.bipush (-12), 2) := by decide +kernel
theorem dL_asleep_10 : decode cL_asleep 10 = .ok (.ireturn, 1) := by decide +kernel
theorem qw_L_asleep : Cond.codeWith yL_asleep cL_asleep 4 (some .int) [(0, 6, 7, 14)] ∈ lw_all := lw_m (lw_i4 (List.mem_of_getElem? (i := 121) (by decide +kernel))) (by decide +kernel)
theorem k_L_asleep : cardS yL_asleep (Cond.codeWith yL_asleep cL_asleep 4 (some .int) [(0, 6, 7, 14)]) 3 := ⟨qs_L_asleep, qw_L_asleep, qn_L, by decide +kernel, by decide +kernel, by decide +kernel⟩
def F_L_asleep (p1 : Int32) (p2 : Int32) (x : XVal) : Option (Int32) :=
  bnd (G_asleep p1 p2 x) (fun r => brn (r.1 = 0) (some r.2.1) (brn (r.1 = 2) (some (-12 : Int32)) (none)))
set_option maxHeartbeats 4000000 in
set_option maxRecDepth 100000 in
theorem c_L_asleep (l : Launch) (hfl : l.stackTraces = false) (ev : LEv) (D : va_G) (g : Nat → ClassId) (ad : Nat → Nat → Nat) (ax : Nat → Nat) (p1 : Int32) (p2 : Int32) (x : XVal) (o : Int32) (h : F_L_asleep p1 p2 x = some o) : MG l yL_asleep (Cond.codeWith yL_asleep cL_asleep 4 (some .int) [(0, 6, 7, 14)]) { frames := 9, cells := 1, slots := 6, locals := 152 } (KF ev) D g [.ref (ax 0), .int p1, .int p2] (OW g ax ad x) (some (.int o)) (OW g ax ad x) 1 6 := by
  obtain ⟨⟨k, v, x2⟩, e1, h⟩ := bnd_p h
  obtain ⟨wc, wc', hN, b1, b2, ex⟩ := nx_asleep l hfl ev.ak ev.av ev.aS D g ad ax p1 p2 x k v x2 e1
  rw [ex] at b2
  refine z_gh_start (by decide) (Nat.le_of_ble_eq_true rfl) ?_
  intro p e s m args below meth c Q A X hr hK hA ht hQ
  have hE := hK.1
  refine z_lv (lv' := [(0, .ref (ax 0)), (1, .int p1), (2, .int p2)]) rfl ?_
  refine z_aload_n X 0 dL_asleep_0 rfl rfl ?_
  refine z_iload_n X 1 dL_asleep_1 rfl rfl ?_
  refine z_iload_n X 2 dL_asleep_2 rfl rfl ?_
  refine z_exV (rest := []) (q0 := 0) (ci := 11) (ws' := OW g ax ad x) X hE hA k_X11_asleep hN ql_L_X11_asleep dL_asleep_3 b1 b2 rfl rfl OW_0 rfl rfl ⟨Nat.le_of_ble_eq_true rfl, Nat.le_of_ble_eq_true rfl, rfl, rfl, Nat.le_of_ble_eq_true rfl, Nat.le_of_ble_eq_true rfl⟩ (Nat.le_of_ble_eq_true rfl) (fun hx => ?_) (fun hx => ?_)
  · have h := brn_t h hx
    cases h
    exact z_lret X hQ (Nat.le_of_ble_eq_true rfl) (Nat.le_of_ble_eq_true rfl) hr dL_asleep_6
  · have h := brn_f h hx
    by_cases n0 : k = 2
    · have h := brn_t h n0
      cases h
      rw [n0]
      refine z_catch (name := "java/lang/IllegalArgumentException") X [] ⟨0, 6, 7, 14⟩ [] (ht.trans rfl) (fun _ hz => absurd hz List.not_mem_nil) (by decide) (by decide) qk_L_IllegalArgumentException qca_IllegalArgumentException_IllegalArgumentException (fun q9 => ?_)
      refine z_astore_n X ((3, .ref q9) :: [(0, .ref (ax 0)), (1, .int p1), (2, .int p2)]) dL_asleep_7 rfl (by decide) rfl ?_
      refine z_bipush X (-12 : Int32) dL_asleep_8 (by decide) ?_
      exact z_lret X hQ (Nat.le_of_ble_eq_true rfl) (Nat.le_of_ble_eq_true rfl) hr dL_asleep_10
    have h := brn_f h n0
    cases h

theorem dL_deepest_0 : decode cL_deepest 0 = .ok (.aload_n 0, 1) := by decide +kernel
theorem dL_deepest_1 : decode cL_deepest 1 = .ok (.invokevirtual 45, 3) := by decide +kernel
theorem dL_deepest_4 : decode cL_deepest 4 = .ok (.ireturn, 1) := by decide +kernel
theorem dL_deepest_5 : decode cL_deepest 5 = .ok (.astore_n 1, 1) := by decide +kernel
theorem dL_deepest_6 : decode cL_deepest 6 = .ok (.bipush (-13), 2) := by decide +kernel
theorem dL_deepest_8 : decode cL_deepest 8 = .ok (.ireturn, 1) := by decide +kernel
theorem qw_L_deepest : Cond.codeWith yL_deepest cL_deepest 2 (some .int) [(0, 4, 5, 49)] ∈ lw_all := lw_m (lw_i4 (List.mem_of_getElem? (i := 150) (by decide +kernel))) (by decide +kernel)
theorem k_L_deepest : cardS yL_deepest (Cond.codeWith yL_deepest cL_deepest 2 (some .int) [(0, 4, 5, 49)]) 1 := ⟨qs_L_deepest, qw_L_deepest, qn_L, by decide +kernel, by decide +kernel, by decide +kernel⟩
def F_L_deepest (x : XVal) : Option (Int32) :=
  bnd (G_deepest x) (fun r => brn (r.1 = 0) (some r.2.1) (brn (r.1 = 4) (some (-13 : Int32)) (none)))
set_option maxHeartbeats 4000000 in
set_option maxRecDepth 100000 in
theorem c_L_deepest (l : Launch) (hfl : l.stackTraces = false) (ev : LEv) (D : va_G) (g : Nat → ClassId) (ad : Nat → Nat → Nat) (ax : Nat → Nat) (x : XVal) (o : Int32) (h : F_L_deepest x = some o) : MG l yL_deepest (Cond.codeWith yL_deepest cL_deepest 2 (some .int) [(0, 4, 5, 49)]) { frames := 9, cells := 1, slots := 6, locals := 151 } (KF ev) D g [.ref (ax 0)] (OW g ax ad x) (some (.int o)) (OW g ax ad x) 1 6 := by
  obtain ⟨⟨k, v, x2⟩, e1, h⟩ := bnd_p h
  obtain ⟨wc, wc', hN, b1, b2, ex⟩ := nx_deepest l hfl ev.ak ev.av ev.aS D g ad ax x k v x2 e1
  rw [ex] at b2
  refine z_gh_start (by decide) (Nat.le_of_ble_eq_true rfl) ?_
  intro p e s m args below meth c Q A X hr hK hA ht hQ
  have hE := hK.1
  refine z_lv (lv' := [(0, .ref (ax 0))]) rfl ?_
  refine z_aload_n X 0 dL_deepest_0 rfl rfl ?_
  refine z_exV (rest := []) (q0 := 0) (ci := 11) (ws' := OW g ax ad x) X hE hA k_X11_deepest hN ql_L_X11_deepest dL_deepest_1 b1 b2 rfl rfl OW_0 rfl rfl ⟨Nat.le_of_ble_eq_true rfl, Nat.le_of_ble_eq_true rfl, rfl, rfl, Nat.le_of_ble_eq_true rfl, Nat.le_of_ble_eq_true rfl⟩ (Nat.le_of_ble_eq_true rfl) (fun hx => ?_) (fun hx => ?_)
  · have h := brn_t h hx
    cases h
    exact z_lret X hQ (Nat.le_of_ble_eq_true rfl) (Nat.le_of_ble_eq_true rfl) hr dL_deepest_4
  · have h := brn_f h hx
    by_cases n0 : k = 4
    · have h := brn_t h n0
      cases h
      rw [n0]
      refine z_catch (name := "java/util/NoSuchElementException") X [] ⟨0, 4, 5, 49⟩ [] (ht.trans rfl) (fun _ hz => absurd hz List.not_mem_nil) (by decide) (by decide) qk_L_NoSuchElementException qca_NoSuchElementException_NoSuchElementException (fun q9 => ?_)
      refine z_astore_n X ((1, .ref q9) :: [(0, .ref (ax 0))]) dL_deepest_5 rfl (by decide) rfl ?_
      refine z_bipush X (-13 : Int32) dL_deepest_6 (by decide) ?_
      exact z_lret X hQ (Nat.le_of_ble_eq_true rfl) (Nat.le_of_ble_eq_true rfl) hr dL_deepest_8
    have h := brn_f h n0
    cases h

theorem dL_ring_0 : decode cL_ring 0 = .ok (.aload_n 0, 1) := by decide +kernel
theorem dL_ring_1 : decode cL_ring 1 = .ok (.iload_n 1, 1) := by decide +kernel
theorem dL_ring_2 : decode cL_ring 2 = .ok (.iload_n 2, 1) := by decide +kernel
theorem dL_ring_3 : decode cL_ring 3 = .ok (.iload_n 3, 1) := by decide +kernel
theorem dL_ring_4 : decode cL_ring 4 = .ok (.invokevirtual 51, 3) := by decide +kernel
theorem dL_ring_7 : decode cL_ring 7 = .ok (.ireturn, 1) := by decide +kernel
theorem dL_ring_8 : decode cL_ring 8 = .ok (.astore 4, 2) := by decide +kernel
theorem dL_ring_10 : decode cL_ring 10 = .ok (.iconst (-1), 1) := by decide +kernel
theorem dL_ring_11 : decode cL_ring 11 = .ok (.ireturn, 1) := by decide +kernel
theorem dL_ring_12 : decode cL_ring 12 = .ok (.astore 4, 2) := by decide +kernel
theorem dL_ring_14 : decode cL_ring 14 = .ok (.bipush (-2), 2) := by decide +kernel
theorem dL_ring_16 : decode cL_ring 16 = .ok (.ireturn, 1) := by decide +kernel
theorem qw_L_ring : Cond.codeWith yL_ring cL_ring 5 (some .int) [(0, 7, 8, 22), (0, 7, 12, 14)] ∈ lw_all := lw_m (lw_i3 (List.mem_of_getElem? (i := 183) (by decide +kernel))) (by decide +kernel)
theorem k_L_ring : cardS yL_ring (Cond.codeWith yL_ring cL_ring 5 (some .int) [(0, 7, 8, 22), (0, 7, 12, 14)]) 4 := ⟨qs_L_ring, qw_L_ring, qn_L, by decide +kernel, by decide +kernel, by decide +kernel⟩
def F_L_ring (p1 : Int32) (p2 : Int32) (p3 : Int32) (x : XVal) : Option (Int32 × XVal) :=
  bnd (G_ring p1 p2 p3 x) (fun r => brn (r.1 = 0) (some (r.2.1, r.2.2)) (brn (r.1 = 1) (some ((-1 : Int32), r.2.2)) (brn (r.1 = 2) (some ((-2 : Int32), r.2.2)) (none))))
set_option maxHeartbeats 4000000 in
set_option maxRecDepth 100000 in
theorem c_L_ring (l : Launch) (hfl : l.stackTraces = false) (ev : LEv) (D : va_G) (g : Nat → ClassId) (ad : Nat → Nat → Nat) (ax : Nat → Nat) (p1 : Int32) (p2 : Int32) (p3 : Int32) (x : XVal) (o : Int32 × XVal) (h : F_L_ring p1 p2 p3 x = some o) : MG l yL_ring (Cond.codeWith yL_ring cL_ring 5 (some .int) [(0, 7, 8, 22), (0, 7, 12, 14)]) { frames := 10, cells := 3, slots := 18, locals := 173 } (KF ev) D g [.ref (ax 0), .int p1, .int p2, .int p3] (OW g ax ad x) (some (.int o.1)) (OW g ax ad o.2) 3 18 := by
  obtain ⟨⟨k, v, x2⟩, e1, h⟩ := bnd_p h
  obtain ⟨wc, wc', hN, b1, b2⟩ := nx_ring l hfl ev.ak ev.av ev.aS D g ad ax p1 p2 p3 x k v x2 e1
  refine z_gh_start (by decide) (Nat.le_of_ble_eq_true rfl) ?_
  intro p e s m args below meth c Q A X hr hK hA ht hQ
  have hE := hK.1
  refine z_lv (lv' := [(0, .ref (ax 0)), (1, .int p1), (2, .int p2), (3, .int p3)]) rfl ?_
  refine z_aload_n X 0 dL_ring_0 rfl rfl ?_
  refine z_iload_n X 1 dL_ring_1 rfl rfl ?_
  refine z_iload_n X 2 dL_ring_2 rfl rfl ?_
  refine z_iload_n X 3 dL_ring_3 rfl rfl ?_
  refine z_exV (rest := []) (q0 := 0) (ci := 11) (ws' := OW g ax ad x2) X hE hA k_X11_ring hN ql_L_X11_ring dL_ring_4 b1 b2 rfl rfl OW_0 rfl rfl ⟨Nat.le_of_ble_eq_true rfl, Nat.le_of_ble_eq_true rfl, rfl, rfl, Nat.le_of_ble_eq_true rfl, Nat.le_of_ble_eq_true rfl⟩ (Nat.le_of_ble_eq_true rfl) (fun hx => ?_) (fun hx => ?_)
  · have h := brn_t h hx
    cases h
    exact z_lret X hQ (Nat.le_of_ble_eq_true rfl) (Nat.le_of_ble_eq_true rfl) hr dL_ring_7
  · have h := brn_f h hx
    by_cases n0 : k = 1
    · have h := brn_t h n0
      cases h
      rw [n0]
      refine z_catch (name := "java/lang/IndexOutOfBoundsException") X [] ⟨0, 7, 8, 22⟩ [⟨0, 7, 12, 14⟩] (ht.trans rfl) (fun _ hz => absurd hz List.not_mem_nil) (by decide) (by decide) qk_L_IndexOutOfBoundsException qca_IndexOutOfBoundsException_IndexOutOfBoundsException (fun q9 => ?_)
      refine z_astore X ((4, .ref q9) :: [(0, .ref (ax 0)), (1, .int p1), (2, .int p2), (3, .int p3)]) dL_ring_8 (by decide) rfl ?_
      refine z_iconst X (-1 : Int32) dL_ring_10 (by decide) ?_
      exact z_lret X hQ (Nat.le_of_ble_eq_true rfl) (Nat.le_of_ble_eq_true rfl) hr dL_ring_11
    have h := brn_f h n0
    by_cases n1 : k = 2
    · have h := brn_t h n1
      cases h
      rw [n1]
      refine z_catch (name := "java/lang/IllegalArgumentException") X [⟨0, 7, 8, 22⟩] ⟨0, 7, 12, 14⟩ [] (ht.trans rfl) (List.forall_mem_cons.mpr ⟨⟨by decide, _, qk_L_IndexOutOfBoundsException, hE.2.2.1 ("java/lang/IllegalArgumentException", "java/lang/IndexOutOfBoundsException") (by decide +kernel)⟩, fun _ hz => absurd hz List.not_mem_nil⟩) (by decide) (by decide) qk_L_IllegalArgumentException qca_IllegalArgumentException_IllegalArgumentException (fun q9 => ?_)
      refine z_astore X ((4, .ref q9) :: [(0, .ref (ax 0)), (1, .int p1), (2, .int p2), (3, .int p3)]) dL_ring_12 (by decide) rfl ?_
      refine z_bipush X (-2 : Int32) dL_ring_14 (by decide) ?_
      exact z_lret X hQ (Nat.le_of_ble_eq_true rfl) (Nat.le_of_ble_eq_true rfl) hr dL_ring_16
    have h := brn_f h n1
    cases h

theorem dL_classOf_0 : decode cL_classOf 0 = .ok (.aload_n 0, 1) := by decide +kernel
theorem dL_classOf_1 : decode cL_classOf 1 = .ok (.iload_n 1, 1) := by decide +kernel
theorem dL_classOf_2 : decode cL_classOf 2 = .ok (.iload_n 2, 1) := by decide +kernel
theorem dL_classOf_3 : decode cL_classOf 3 = .ok (.iload_n 3, 1) := by decide +kernel
theorem dL_classOf_4 : decode cL_classOf 4 = .ok (.iload 4, 2) := by decide +kernel
theorem dL_classOf_6 : decode cL_classOf 6 = .ok (.invokevirtual 54, 3) := by decide +kernel
theorem dL_classOf_9 : decode cL_classOf 9 = .ok (.ireturn, 1) := by decide +kernel
theorem dL_classOf_10 : decode cL_classOf 10 = .ok (.astore 5, 2) := by decide +kernel
theorem dL_classOf_12 : decode cL_classOf 12 = .ok (.bipush (-11), 2) := by decide +kernel
theorem dL_classOf_14 : decode cL_classOf 14 = .ok (.ireturn, 1) := by decide +kernel
theorem dL_classOf_15 : decode cL_classOf 15 = .ok (.astore 5, 2) := by decide +kernel
theorem dL_classOf_17 : decode cL_classOf 17 = .ok (.bipush (-12), 2) := by decide +kernel
theorem dL_classOf_19 : decode cL_classOf 19 = .ok (.ireturn, 1) := by decide +kernel
theorem qw_L_classOf : Cond.codeWith yL_classOf cL_classOf 6 (some .int) [(0, 9, 10, 22), (0, 9, 15, 14)] ∈ lw_all := lw_m (lw_i4 (List.mem_of_getElem? (i := 219) (by decide +kernel))) (by decide +kernel)
theorem k_L_classOf : cardS yL_classOf (Cond.codeWith yL_classOf cL_classOf 6 (some .int) [(0, 9, 10, 22), (0, 9, 15, 14)]) 5 := ⟨qs_L_classOf, qw_L_classOf, qn_L, by decide +kernel, by decide +kernel, by decide +kernel⟩
def F_L_classOf (p1 : Int32) (p2 : Int32) (p3 : Int32) (p4 : Int32) (x : XVal) : Option (Int32) :=
  bnd (G_classOf p1 p2 p3 p4 x) (fun r => brn (r.1 = 0) (some r.2.1) (brn (r.1 = 1) (some (-11 : Int32)) (brn (r.1 = 2) (some (-12 : Int32)) (none))))
set_option maxHeartbeats 4000000 in
set_option maxRecDepth 100000 in
theorem c_L_classOf (l : Launch) (hfl : l.stackTraces = false) (ev : LEv) (D : va_G) (g : Nat → ClassId) (ad : Nat → Nat → Nat) (ax : Nat → Nat) (p1 : Int32) (p2 : Int32) (p3 : Int32) (p4 : Int32) (x : XVal) (o : Int32) (h : F_L_classOf p1 p2 p3 p4 x = some o) : MG l yL_classOf (Cond.codeWith yL_classOf cL_classOf 6 (some .int) [(0, 9, 10, 22), (0, 9, 15, 14)]) { frames := 10, cells := 4, slots := 24, locals := 174 } (KF ev) D g [.ref (ax 0), .int p1, .int p2, .int p3, .int p4] (OW g ax ad x) (some (.int o)) (OW g ax ad x) 4 24 := by
  obtain ⟨⟨k, v, x2⟩, e1, h⟩ := bnd_p h
  obtain ⟨wc, wc', hN, b1, b2, ex⟩ := nx_classOf l hfl ev.ak ev.av ev.aS D g ad ax p1 p2 p3 p4 x k v x2 e1
  rw [ex] at b2
  refine z_gh_start (by decide) (Nat.le_of_ble_eq_true rfl) ?_
  intro p e s m args below meth c Q A X hr hK hA ht hQ
  have hE := hK.1
  refine z_lv (lv' := [(0, .ref (ax 0)), (1, .int p1), (2, .int p2), (3, .int p3), (4, .int p4)]) rfl ?_
  refine z_aload_n X 0 dL_classOf_0 rfl rfl ?_
  refine z_iload_n X 1 dL_classOf_1 rfl rfl ?_
  refine z_iload_n X 2 dL_classOf_2 rfl rfl ?_
  refine z_iload_n X 3 dL_classOf_3 rfl rfl ?_
  refine z_iload X 4 dL_classOf_4 rfl ?_
  refine z_exV (rest := []) (q0 := 0) (ci := 11) (ws' := OW g ax ad x) X hE hA k_X11_classOf hN ql_L_X11_classOf dL_classOf_6 b1 b2 rfl rfl OW_0 rfl rfl ⟨Nat.le_of_ble_eq_true rfl, Nat.le_of_ble_eq_true rfl, rfl, rfl, Nat.le_of_ble_eq_true rfl, Nat.le_of_ble_eq_true rfl⟩ (Nat.le_of_ble_eq_true rfl) (fun hx => ?_) (fun hx => ?_)
  · have h := brn_t h hx
    cases h
    exact z_lret X hQ (Nat.le_of_ble_eq_true rfl) (Nat.le_of_ble_eq_true rfl) hr dL_classOf_9
  · have h := brn_f h hx
    by_cases n0 : k = 1
    · have h := brn_t h n0
      cases h
      rw [n0]
      refine z_catch (name := "java/lang/IndexOutOfBoundsException") X [] ⟨0, 9, 10, 22⟩ [⟨0, 9, 15, 14⟩] (ht.trans rfl) (fun _ hz => absurd hz List.not_mem_nil) (by decide) (by decide) qk_L_IndexOutOfBoundsException qca_IndexOutOfBoundsException_IndexOutOfBoundsException (fun q9 => ?_)
      refine z_astore X ((5, .ref q9) :: [(0, .ref (ax 0)), (1, .int p1), (2, .int p2), (3, .int p3), (4, .int p4)]) dL_classOf_10 (by decide) rfl ?_
      refine z_bipush X (-11 : Int32) dL_classOf_12 (by decide) ?_
      exact z_lret X hQ (Nat.le_of_ble_eq_true rfl) (Nat.le_of_ble_eq_true rfl) hr dL_classOf_14
    have h := brn_f h n0
    by_cases n1 : k = 2
    · have h := brn_t h n1
      cases h
      rw [n1]
      refine z_catch (name := "java/lang/IllegalArgumentException") X [⟨0, 9, 10, 22⟩] ⟨0, 9, 15, 14⟩ [] (ht.trans rfl) (List.forall_mem_cons.mpr ⟨⟨by decide, _, qk_L_IndexOutOfBoundsException, hE.2.2.1 ("java/lang/IllegalArgumentException", "java/lang/IndexOutOfBoundsException") (by decide +kernel)⟩, fun _ hz => absurd hz List.not_mem_nil⟩) (by decide) (by decide) qk_L_IllegalArgumentException qca_IllegalArgumentException_IllegalArgumentException (fun q9 => ?_)
      refine z_astore X ((5, .ref q9) :: [(0, .ref (ax 0)), (1, .int p1), (2, .int p2), (3, .int p3), (4, .int p4)]) dL_classOf_15 (by decide) rfl ?_
      refine z_bipush X (-12 : Int32) dL_classOf_17 (by decide) ?_
      exact z_lret X hQ (Nat.le_of_ble_eq_true rfl) (Nat.le_of_ble_eq_true rfl) hr dL_classOf_19
    have h := brn_f h n1
    cases h

theorem dL_echo_0 : decode cL_echo 0 = .ok (.aload_n 0, 1) := by decide +kernel
theorem dL_echo_1 : decode cL_echo 1 = .ok (.iload_n 1, 1) := by decide +kernel
theorem dL_echo_2 : decode cL_echo 2 = .ok (.iload_n 2, 1) := by decide +kernel
theorem dL_echo_3 : decode cL_echo 3 = .ok (.iload_n 3, 1) := by decide +kernel
theorem dL_echo_4 : decode cL_echo 4 = .ok (.invokevirtual 58, 3) := by decide +kernel
theorem dL_echo_7 : decode cL_echo 7 = .ok (.ireturn, 1) := by decide +kernel
theorem dL_echo_8 : decode cL_echo 8 = .ok (.astore 4, 2) := by decide +kernel
theorem dL_echo_10 : decode cL_echo 10 = .ok (.bipush (-11), 2) := by decide +kernel
theorem dL_echo_12 : decode cL_echo 12 = .ok (.ireturn, 1) := by decide +kernel
theorem dL_echo_13 : decode cL_echo 13 = .ok (.astore 4, 2) := by decide +kernel
theorem dL_echo_15 : decode cL_echo 15 = .ok (.bipush (-12), 2) := by decide +kernel
theorem dL_echo_17 : decode cL_echo 17 = .ok (.ireturn, 1) := by decide +kernel
theorem dL_echo_18 : decode cL_echo 18 = .ok (.astore 4, 2) := by decide +kernel
theorem dL_echo_20 : decode cL_echo 20 = .ok (.bipush (-13), 2) := by decide +kernel
theorem dL_echo_22 : decode cL_echo 22 = .ok (.ireturn, 1) := by decide +kernel
theorem qw_L_echo : Cond.codeWith yL_echo cL_echo 5 (some .int) [(0, 7, 8, 22), (0, 7, 13, 14), (0, 7, 18, 49)] ∈ lw_all := lw_m (lw_i4 (List.mem_of_getElem? (i := 209) (by decide +kernel))) (by decide +kernel)
theorem k_L_echo : cardS yL_echo (Cond.codeWith yL_echo cL_echo 5 (some .int) [(0, 7, 8, 22), (0, 7, 13, 14), (0, 7, 18, 49)]) 4 := ⟨qs_L_echo, qw_L_echo, qn_L, by decide +kernel, by decide +kernel, by decide +kernel⟩
def F_L_echo (p1 : Int32) (p2 : Int32) (p3 : Int32) (x : XVal) : Option (Int32) :=
  bnd (G_echo p1 p2 p3 x) (fun r => brn (r.1 = 0) (some r.2.1) (brn (r.1 = 1) (some (-11 : Int32)) (brn (r.1 = 2) (some (-12 : Int32)) (brn (r.1 = 4) (some (-13 : Int32)) (none)))))
set_option maxHeartbeats 4000000 in
set_option maxRecDepth 100000 in
theorem c_L_echo (l : Launch) (hfl : l.stackTraces = false) (ev : LEv) (D : va_G) (g : Nat → ClassId) (ad : Nat → Nat → Nat) (ax : Nat → Nat) (p1 : Int32) (p2 : Int32) (p3 : Int32) (x : XVal) (o : Int32) (h : F_L_echo p1 p2 p3 x = some o) : MG l yL_echo (Cond.codeWith yL_echo cL_echo 5 (some .int) [(0, 7, 8, 22), (0, 7, 13, 14), (0, 7, 18, 49)]) { frames := 9, cells := 3, slots := 18, locals := 153 } (KF ev) D g [.ref (ax 0), .int p1, .int p2, .int p3] (OW g ax ad x) (some (.int o)) (OW g ax ad x) 3 18 := by
  obtain ⟨⟨k, v, x2⟩, e1, h⟩ := bnd_p h
  obtain ⟨wc, wc', hN, b1, b2, ex⟩ := nx_echo l hfl ev.ak ev.av ev.aS D g ad ax p1 p2 p3 x k v x2 e1
  rw [ex] at b2
  refine z_gh_start (by decide) (Nat.le_of_ble_eq_true rfl) ?_
  intro p e s m args below meth c Q A X hr hK hA ht hQ
  have hE := hK.1
  refine z_lv (lv' := [(0, .ref (ax 0)), (1, .int p1), (2, .int p2), (3, .int p3)]) rfl ?_
  refine z_aload_n X 0 dL_echo_0 rfl rfl ?_
  refine z_iload_n X 1 dL_echo_1 rfl rfl ?_
  refine z_iload_n X 2 dL_echo_2 rfl rfl ?_
  refine z_iload_n X 3 dL_echo_3 rfl rfl ?_
  refine z_exV (rest := []) (q0 := 0) (ci := 11) (ws' := OW g ax ad x) X hE hA k_X11_echo hN ql_L_X11_echo dL_echo_4 b1 b2 rfl rfl OW_0 rfl rfl ⟨Nat.le_of_ble_eq_true rfl, Nat.le_of_ble_eq_true rfl, rfl, rfl, Nat.le_of_ble_eq_true rfl, Nat.le_of_ble_eq_true rfl⟩ (Nat.le_of_ble_eq_true rfl) (fun hx => ?_) (fun hx => ?_)
  · have h := brn_t h hx
    cases h
    exact z_lret X hQ (Nat.le_of_ble_eq_true rfl) (Nat.le_of_ble_eq_true rfl) hr dL_echo_7
  · have h := brn_f h hx
    by_cases n0 : k = 1
    · have h := brn_t h n0
      cases h
      rw [n0]
      refine z_catch (name := "java/lang/IndexOutOfBoundsException") X [] ⟨0, 7, 8, 22⟩ [⟨0, 7, 13, 14⟩, ⟨0, 7, 18, 49⟩] (ht.trans rfl) (fun _ hz => absurd hz List.not_mem_nil) (by decide) (by decide) qk_L_IndexOutOfBoundsException qca_IndexOutOfBoundsException_IndexOutOfBoundsException (fun q9 => ?_)
      refine z_astore X ((4, .ref q9) :: [(0, .ref (ax 0)), (1, .int p1), (2, .int p2), (3, .int p3)]) dL_echo_8 (by decide) rfl ?_
      refine z_bipush X (-11 : Int32) dL_echo_10 (by decide) ?_
      exact z_lret X hQ (Nat.le_of_ble_eq_true rfl) (Nat.le_of_ble_eq_true rfl) hr dL_echo_12
    have h := brn_f h n0
    by_cases n1 : k = 2
    · have h := brn_t h n1
      cases h
      rw [n1]
      refine z_catch (name := "java/lang/IllegalArgumentException") X [⟨0, 7, 8, 22⟩] ⟨0, 7, 13, 14⟩ [⟨0, 7, 18, 49⟩] (ht.trans rfl) (List.forall_mem_cons.mpr ⟨⟨by decide, _, qk_L_IndexOutOfBoundsException, hE.2.2.1 ("java/lang/IllegalArgumentException", "java/lang/IndexOutOfBoundsException") (by decide +kernel)⟩, fun _ hz => absurd hz List.not_mem_nil⟩) (by decide) (by decide) qk_L_IllegalArgumentException qca_IllegalArgumentException_IllegalArgumentException (fun q9 => ?_)
      refine z_astore X ((4, .ref q9) :: [(0, .ref (ax 0)), (1, .int p1), (2, .int p2), (3, .int p3)]) dL_echo_13 (by decide) rfl ?_
      refine z_bipush X (-12 : Int32) dL_echo_15 (by decide) ?_
      exact z_lret X hQ (Nat.le_of_ble_eq_true rfl) (Nat.le_of_ble_eq_true rfl) hr dL_echo_17
    have h := brn_f h n1
    by_cases n2 : k = 4
    · have h := brn_t h n2
      cases h
      rw [n2]
      refine z_catch (name := "java/util/NoSuchElementException") X [⟨0, 7, 8, 22⟩, ⟨0, 7, 13, 14⟩] ⟨0, 7, 18, 49⟩ [] (ht.trans rfl) (List.forall_mem_cons.mpr ⟨⟨by decide, _, qk_L_IndexOutOfBoundsException, hE.2.2.1 ("java/util/NoSuchElementException", "java/lang/IndexOutOfBoundsException") (by decide +kernel)⟩, List.forall_mem_cons.mpr ⟨⟨by decide, _, qk_L_IllegalArgumentException, hE.2.2.1 ("java/util/NoSuchElementException", "java/lang/IllegalArgumentException") (by decide +kernel)⟩, fun _ hz => absurd hz List.not_mem_nil⟩⟩) (by decide) (by decide) qk_L_NoSuchElementException qca_NoSuchElementException_NoSuchElementException (fun q9 => ?_)
      refine z_astore X ((4, .ref q9) :: [(0, .ref (ax 0)), (1, .int p1), (2, .int p2), (3, .int p3)]) dL_echo_18 (by decide) rfl ?_
      refine z_bipush X (-13 : Int32) dL_echo_20 (by decide) ?_
      exact z_lret X hQ (Nat.le_of_ble_eq_true rfl) (Nat.le_of_ble_eq_true rfl) hr dL_echo_22
    have h := brn_f h n2
    cases h
