theorem dL_ranked_0 : decode cL_ranked 0 = .ok (.aload_n 0, 1) := by decide +kernel
theorem dL_ranked_1 : decode cL_ranked 1 = .ok (.iload_n 1, 1) := by decide +kernel
theorem dL_ranked_2 : decode cL_ranked 2 = .ok (.invokevirtual 99, 3) := by decide +kernel
theorem dL_ranked_5 : decode cL_ranked 5 = .ok (.ireturn, 1) := by decide +kernel
theorem dL_ranked_6 : decode cL_ranked 6 = .ok (.astore_n 2, 1) := by decide +kernel
theorem dL_ranked_7 : decode cL_ranked 7 = .ok (.bipush (-13), 2) := by decide +kernel
theorem dL_ranked_9 : decode cL_ranked 9 = .ok (.ireturn, 1) := by decide +kernel
theorem qw_L_ranked : Cond.codeWith yL_ranked cL_ranked 3 (some .int) [(0, 5, 6, 49)] ∈ lw_all := lw_m (lw_i5 (List.mem_of_getElem? (i := 155) (by decide +kernel))) (by decide +kernel)
theorem k_L_ranked : cardS yL_ranked (Cond.codeWith yL_ranked cL_ranked 3 (some .int) [(0, 5, 6, 49)]) 2 := ⟨qs_L_ranked, qw_L_ranked, qn_L, by decide +kernel, by decide +kernel, by decide +kernel⟩
def F_L_ranked (p1 : Int32) (x : XVal) : Option (Int32) :=
  bnd (G_ranked p1 x) (fun r => brn (r.1 = 0) (some r.2.1) (brn (r.1 = 4) (some (-13 : Int32)) (none)))
set_option maxHeartbeats 4000000 in
set_option maxRecDepth 100000 in
theorem c_L_ranked (l : Launch) (hfl : l.stackTraces = false) (ev : LEv) (D : va_G) (g : Nat → ClassId) (ad : Nat → Nat → Nat) (ax : Nat → Nat) (p1 : Int32) (x : XVal) (o : Int32) (h : F_L_ranked p1 x = some o) : MG l yL_ranked (Cond.codeWith yL_ranked cL_ranked 3 (some .int) [(0, 5, 6, 49)]) { frames := 9, cells := 1, slots := 6, locals := 152 } (KF ev) D g [.ref (ax 0), .int p1] (OW g ax ad x) (some (.int o)) (OW g ax ad x) 1 6 := by
  obtain ⟨⟨k, v, x2⟩, e1, h⟩ := bnd_p h
  obtain ⟨wc, wc', hN, b1, b2, ex⟩ := nx_ranked l hfl ev.ak ev.av ev.aS D g ad ax p1 x k v x2 e1
  rw [ex] at b2
  refine z_gh_start (by decide) (Nat.le_of_ble_eq_true rfl) ?_
  intro p e s m args below meth c Q A X hr hK hA ht hQ
  have hE := hK.1
  refine z_lv (lv' := [(0, .ref (ax 0)), (1, .int p1)]) rfl ?_
  refine z_aload_n X 0 dL_ranked_0 rfl rfl ?_
  refine z_iload_n X 1 dL_ranked_1 rfl rfl ?_
  refine z_exV (rest := []) (q0 := 0) (ci := 11) (ws' := OW g ax ad x) X hE hA k_X11_ranked hN ql_L_X11_ranked dL_ranked_2 b1 b2 rfl rfl OW_0 rfl rfl ⟨Nat.le_of_ble_eq_true rfl, Nat.le_of_ble_eq_true rfl, rfl, rfl, Nat.le_of_ble_eq_true rfl, Nat.le_of_ble_eq_true rfl⟩ (Nat.le_of_ble_eq_true rfl) (fun hx => ?_) (fun hx => ?_)
  · have h := brn_t h hx
    cases h
    exact z_lret X hQ (Nat.le_of_ble_eq_true rfl) (Nat.le_of_ble_eq_true rfl) hr dL_ranked_5
  · have h := brn_f h hx
    by_cases n0 : k = 4
    · have h := brn_t h n0
      cases h
      rw [n0]
      refine z_catch (name := "java/util/NoSuchElementException") X [] ⟨0, 5, 6, 49⟩ [] (ht.trans rfl) (fun _ hz => absurd hz List.not_mem_nil) (by decide) (by decide) qk_L_NoSuchElementException qca_NoSuchElementException_NoSuchElementException (fun q9 => ?_)
      refine z_astore_n X ((2, .ref q9) :: [(0, .ref (ax 0)), (1, .int p1)]) dL_ranked_6 rfl (by decide) rfl ?_
      refine z_bipush X (-13 : Int32) dL_ranked_7 (by decide) ?_
      exact z_lret X hQ (Nat.le_of_ble_eq_true rfl) (Nat.le_of_ble_eq_true rfl) hr dL_ranked_9
    have h := brn_f h n0
    cases h

theorem dL_line_0 : decode cL_line 0 = .ok (.aload_n 0, 1) := by decide +kernel
theorem dL_line_1 : decode cL_line 1 = .ok (.iload_n 1, 1) := by decide +kernel
theorem dL_line_2 : decode cL_line 2 = .ok (.invokevirtual 102, 3) := by decide +kernel
theorem dL_line_5 : decode cL_line 5 = .ok (.ireturn, 1) := by decide +kernel
theorem dL_line_6 : decode cL_line 6 = .ok (.astore_n 2, 1) := by decide +kernel
theorem dL_line_7 : decode cL_line 7 = .ok (.bipush (-12), 2) := by decide +kernel
theorem dL_line_9 : decode cL_line 9 = .ok (.ireturn, 1) := by decide +kernel
theorem qw_L_line : Cond.codeWith yL_line cL_line 3 (some .int) [(0, 5, 6, 14)] ∈ lw_all := lw_m (lw_i5 (List.mem_of_getElem? (i := 185) (by decide +kernel))) (by decide +kernel)
theorem k_L_line : cardS yL_line (Cond.codeWith yL_line cL_line 3 (some .int) [(0, 5, 6, 14)]) 2 := ⟨qs_L_line, qw_L_line, qn_L, by decide +kernel, by decide +kernel, by decide +kernel⟩
def F_L_line (p1 : Int32) (x : XVal) : Option (Int32 × XVal) :=
  bnd (G_line p1 x) (fun r => brn (r.1 = 0) (some (r.2.1, r.2.2)) (brn (r.1 = 2) (some ((-12 : Int32), r.2.2)) (none)))
set_option maxHeartbeats 4000000 in
set_option maxRecDepth 100000 in
theorem c_L_line (l : Launch) (hfl : l.stackTraces = false) (ev : LEv) (D : va_G) (g : Nat → ClassId) (ad : Nat → Nat → Nat) (ax : Nat → Nat) (p1 : Int32) (x : XVal) (o : Int32 × XVal) (h : F_L_line p1 x = some o) : MG l yL_line (Cond.codeWith yL_line cL_line 3 (some .int) [(0, 5, 6, 14)]) { frames := 9, cells := 1, slots := 6, locals := 151 } (KF ev) D g [.ref (ax 0), .int p1] (OW g ax ad x) (some (.int o.1)) (OW g ax ad o.2) 1 6 := by
  obtain ⟨⟨k, v, x2⟩, e1, h⟩ := bnd_p h
  obtain ⟨wc, wc', hN, b1, b2⟩ := nx_line l hfl ev.ak ev.av ev.aS D g ad ax p1 x k v x2 e1
  refine z_gh_start (by decide) (Nat.le_of_ble_eq_true rfl) ?_
  intro p e s m args below meth c Q A X hr hK hA ht hQ
  have hE := hK.1
  refine z_lv (lv' := [(0, .ref (ax 0)), (1, .int p1)]) rfl ?_
  refine z_aload_n X 0 dL_line_0 rfl rfl ?_
  refine z_iload_n X 1 dL_line_1 rfl rfl ?_
  refine z_exV (rest := []) (q0 := 0) (ci := 11) (ws' := OW g ax ad x2) X hE hA k_X11_line hN ql_L_X11_line dL_line_2 b1 b2 rfl rfl OW_0 rfl rfl ⟨Nat.le_of_ble_eq_true rfl, Nat.le_of_ble_eq_true rfl, rfl, rfl, Nat.le_of_ble_eq_true rfl, Nat.le_of_ble_eq_true rfl⟩ (Nat.le_of_ble_eq_true rfl) (fun hx => ?_) (fun hx => ?_)
  · have h := brn_t h hx
    cases h
    exact z_lret X hQ (Nat.le_of_ble_eq_true rfl) (Nat.le_of_ble_eq_true rfl) hr dL_line_5
  · have h := brn_f h hx
    by_cases n0 : k = 2
    · have h := brn_t h n0
      cases h
      rw [n0]
      refine z_catch (name := "java/lang/IllegalArgumentException") X [] ⟨0, 5, 6, 14⟩ [] (ht.trans rfl) (fun _ hz => absurd hz List.not_mem_nil) (by decide) (by decide) qk_L_IllegalArgumentException qca_IllegalArgumentException_IllegalArgumentException (fun q9 => ?_)
      refine z_astore_n X ((2, .ref q9) :: [(0, .ref (ax 0)), (1, .int p1)]) dL_line_6 rfl (by decide) rfl ?_
      refine z_bipush X (-12 : Int32) dL_line_7 (by decide) ?_
      exact z_lret X hQ (Nat.le_of_ble_eq_true rfl) (Nat.le_of_ble_eq_true rfl) hr dL_line_9
    have h := brn_f h n0
    cases h

theorem dL_houseLine_0 : decode cL_houseLine 0 = .ok (.aload_n 0, 1) := by decide +kernel
theorem dL_houseLine_1 : decode cL_houseLine 1 = .ok (.iload_n 1, 1) := by decide +kernel
theorem dL_houseLine_2 : decode cL_houseLine 2 = .ok (.invokevirtual 105, 3) := by decide +kernel
theorem dL_houseLine_5 : decode cL_houseLine 5 = .ok (.ireturn, 1) := by decide +kernel
theorem dL_houseLine_6 : decode cL_houseLine 6 = .ok (.astore_n 2, 1) := by decide +kernel
theorem dL_houseLine_7 : decode cL_houseLine 7 = .ok (.bipush (-11), 2) := by decide +kernel
theorem dL_houseLine_9 : decode cL_houseLine 9 = .ok (.ireturn, 1) := by decide +kernel
theorem qw_L_houseLine : Cond.codeWith yL_houseLine cL_houseLine 3 (some .int) [(0, 5, 6, 22)] ∈ lw_all := lw_m (lw_i7 (List.mem_of_getElem? (i := 18) (by decide +kernel))) (by decide +kernel)
theorem k_L_houseLine : cardS yL_houseLine (Cond.codeWith yL_houseLine cL_houseLine 3 (some .int) [(0, 5, 6, 22)]) 2 := ⟨qs_L_houseLine, qw_L_houseLine, qn_L, by decide +kernel, by decide +kernel, by decide +kernel⟩
def F_L_houseLine (p1 : Int32) (x : XVal) : Option (Int32 × XVal) :=
  bnd (G_houseLine p1 x) (fun r => brn (r.1 = 0) (some (r.2.1, r.2.2)) (brn (r.1 = 1) (some ((-11 : Int32), r.2.2)) (none)))
set_option maxHeartbeats 4000000 in
set_option maxRecDepth 100000 in
theorem c_L_houseLine (l : Launch) (hfl : l.stackTraces = false) (ev : LEv) (D : va_G) (g : Nat → ClassId) (ad : Nat → Nat → Nat) (ax : Nat → Nat) (p1 : Int32) (x : XVal) (o : Int32 × XVal) (h : F_L_houseLine p1 x = some o) : MG l yL_houseLine (Cond.codeWith yL_houseLine cL_houseLine 3 (some .int) [(0, 5, 6, 22)]) { frames := 9, cells := 1, slots := 6, locals := 151 } (KF ev) D g [.ref (ax 0), .int p1] (OW g ax ad x) (some (.int o.1)) (OW g ax ad o.2) 1 6 := by
  obtain ⟨⟨k, v, x2⟩, e1, h⟩ := bnd_p h
  obtain ⟨wc, wc', hN, b1, b2⟩ := nx_houseLine l hfl ev.ak ev.av ev.aS D g ad ax p1 x k v x2 e1
  refine z_gh_start (by decide) (Nat.le_of_ble_eq_true rfl) ?_
  intro p e s m args below meth c Q A X hr hK hA ht hQ
  have hE := hK.1
  refine z_lv (lv' := [(0, .ref (ax 0)), (1, .int p1)]) rfl ?_
  refine z_aload_n X 0 dL_houseLine_0 rfl rfl ?_
  refine z_iload_n X 1 dL_houseLine_1 rfl rfl ?_
  refine z_exV (rest := []) (q0 := 0) (ci := 11) (ws' := OW g ax ad x2) X hE hA k_X11_houseLine hN ql_L_X11_houseLine dL_houseLine_2 b1 b2 rfl rfl OW_0 rfl rfl ⟨Nat.le_of_ble_eq_true rfl, Nat.le_of_ble_eq_true rfl, rfl, rfl, Nat.le_of_ble_eq_true rfl, Nat.le_of_ble_eq_true rfl⟩ (Nat.le_of_ble_eq_true rfl) (fun hx => ?_) (fun hx => ?_)
  · have h := brn_t h hx
    cases h
    exact z_lret X hQ (Nat.le_of_ble_eq_true rfl) (Nat.le_of_ble_eq_true rfl) hr dL_houseLine_5
  · have h := brn_f h hx
    by_cases n0 : k = 1
    · have h := brn_t h n0
      cases h
      rw [n0]
      refine z_catch (name := "java/lang/IndexOutOfBoundsException") X [] ⟨0, 5, 6, 22⟩ [] (ht.trans rfl) (fun _ hz => absurd hz List.not_mem_nil) (by decide) (by decide) qk_L_IndexOutOfBoundsException qca_IndexOutOfBoundsException_IndexOutOfBoundsException (fun q9 => ?_)
      refine z_astore_n X ((2, .ref q9) :: [(0, .ref (ax 0)), (1, .int p1)]) dL_houseLine_6 rfl (by decide) rfl ?_
      refine z_bipush X (-11 : Int32) dL_houseLine_7 (by decide) ?_
      exact z_lret X hQ (Nat.le_of_ble_eq_true rfl) (Nat.le_of_ble_eq_true rfl) hr dL_houseLine_9
    have h := brn_f h n0
    cases h

theorem dL_character_0 : decode cL_character 0 = .ok (.aload_n 0, 1) := by decide +kernel
theorem dL_character_1 : decode cL_character 1 = .ok (.iload_n 1, 1) := by decide +kernel
theorem dL_character_2 : decode cL_character 2 = .ok (.invokevirtual 108, 3) := by decide +kernel
theorem dL_character_5 : decode cL_character 5 = .ok (.ireturn, 1) := by decide +kernel
theorem dL_character_6 : decode cL_character 6 = .ok (.astore_n 2, 1) := by decide +kernel
theorem dL_character_7 : decode cL_character 7 = .ok (.bipush (-11), 2) := by decide +kernel
theorem dL_character_9 : decode cL_character 9 = .ok (.ireturn, 1) := by decide +kernel
theorem qw_L_character : Cond.codeWith yL_character cL_character 3 (some .int) [(0, 5, 6, 22)] ∈ lw_all := lw_m (lw_i5 (List.mem_of_getElem? (i := 212) (by decide +kernel))) (by decide +kernel)
theorem k_L_character : cardS yL_character (Cond.codeWith yL_character cL_character 3 (some .int) [(0, 5, 6, 22)]) 2 := ⟨qs_L_character, qw_L_character, qn_L, by decide +kernel, by decide +kernel, by decide +kernel⟩
def F_L_character (p1 : Int32) (x : XVal) : Option (Int32) :=
  bnd (G_character p1 x) (fun r => brn (r.1 = 0) (some r.2.1) (brn (r.1 = 1) (some (-11 : Int32)) (none)))
set_option maxHeartbeats 4000000 in
set_option maxRecDepth 100000 in
theorem c_L_character (l : Launch) (hfl : l.stackTraces = false) (ev : LEv) (D : va_G) (g : Nat → ClassId) (ad : Nat → Nat → Nat) (ax : Nat → Nat) (p1 : Int32) (x : XVal) (o : Int32) (h : F_L_character p1 x = some o) : MG l yL_character (Cond.codeWith yL_character cL_character 3 (some .int) [(0, 5, 6, 22)]) { frames := 9, cells := 1, slots := 6, locals := 151 } (KF ev) D g [.ref (ax 0), .int p1] (OW g ax ad x) (some (.int o)) (OW g ax ad x) 1 6 := by
  obtain ⟨⟨k, v, x2⟩, e1, h⟩ := bnd_p h
  obtain ⟨wc, wc', hN, b1, b2, ex⟩ := nx_character l hfl ev.ak ev.av ev.aS D g ad ax p1 x k v x2 e1
  rw [ex] at b2
  refine z_gh_start (by decide) (Nat.le_of_ble_eq_true rfl) ?_
  intro p e s m args below meth c Q A X hr hK hA ht hQ
  have hE := hK.1
  refine z_lv (lv' := [(0, .ref (ax 0)), (1, .int p1)]) rfl ?_
  refine z_aload_n X 0 dL_character_0 rfl rfl ?_
  refine z_iload_n X 1 dL_character_1 rfl rfl ?_
  refine z_exV (rest := []) (q0 := 0) (ci := 11) (ws' := OW g ax ad x) X hE hA k_X11_character hN ql_L_X11_character dL_character_2 b1 b2 rfl rfl OW_0 rfl rfl ⟨Nat.le_of_ble_eq_true rfl, Nat.le_of_ble_eq_true rfl, rfl, rfl, Nat.le_of_ble_eq_true rfl, Nat.le_of_ble_eq_true rfl⟩ (Nat.le_of_ble_eq_true rfl) (fun hx => ?_) (fun hx => ?_)
  · have h := brn_t h hx
    cases h
    exact z_lret X hQ (Nat.le_of_ble_eq_true rfl) (Nat.le_of_ble_eq_true rfl) hr dL_character_5
  · have h := brn_f h hx
    by_cases n0 : k = 1
    · have h := brn_t h n0
      cases h
      rw [n0]
      refine z_catch (name := "java/lang/IndexOutOfBoundsException") X [] ⟨0, 5, 6, 22⟩ [] (ht.trans rfl) (fun _ hz => absurd hz List.not_mem_nil) (by decide) (by decide) qk_L_IndexOutOfBoundsException qca_IndexOutOfBoundsException_IndexOutOfBoundsException (fun q9 => ?_)
      refine z_astore_n X ((2, .ref q9) :: [(0, .ref (ax 0)), (1, .int p1)]) dL_character_6 rfl (by decide) rfl ?_
      refine z_bipush X (-11 : Int32) dL_character_7 (by decide) ?_
      exact z_lret X hQ (Nat.le_of_ble_eq_true rfl) (Nat.le_of_ble_eq_true rfl) hr dL_character_9
    have h := brn_f h n0
    cases h

theorem dL_append_0 : decode cL_append 0 = .ok (.aload_n 0, 1) := by decide +kernel
theorem dL_append_1 : decode cL_append 1 = .ok (.iload_n 1, 1) := by decide +kernel
theorem dL_append_2 : decode cL_append 2 = .ok (.invokevirtual 112, 3) := by decide +kernel
theorem dL_append_5 : decode cL_append 5 = .ok (.ireturn, 1) := by decide +kernel
theorem dL_append_6 : decode cL_append 6 = .ok (.astore_n 2, 1) := by decide +kernel
theorem dL_append_7 : decode cL_append 7 = .ok (.bipush (-14), 2) := by decide +kernel
theorem dL_append_9 : decode cL_append 9 = .ok (.ireturn, 1) := by decide +kernel
theorem qw_L_append : Cond.codeWith yL_append cL_append 3 (some .int) [(0, 5, 6, 116)] ∈ lw_all := lw_m (lw_i7 (List.mem_of_getElem? (i := 123) (by decide +kernel))) (by decide +kernel)
theorem k_L_append : cardS yL_append (Cond.codeWith yL_append cL_append 3 (some .int) [(0, 5, 6, 116)]) 2 := ⟨qs_L_append, qw_L_append, qn_L, by decide +kernel, by decide +kernel, by decide +kernel⟩
def F_L_append (p1 : Int32) (x : XVal) : Option (Int32 × XVal) :=
  bnd (G_append p1 x) (fun r => brn (r.1 = 0) (some (r.2.1, r.2.2)) (brn (r.1 = 5) (some ((-14 : Int32), r.2.2)) (none)))
set_option maxHeartbeats 4000000 in
set_option maxRecDepth 100000 in
theorem c_L_append (l : Launch) (hfl : l.stackTraces = false) (ev : LEv) (D : va_G) (g : Nat → ClassId) (ad : Nat → Nat → Nat) (ax : Nat → Nat) (p1 : Int32) (x : XVal) (o : Int32 × XVal) (h : F_L_append p1 x = some o) : MG l yL_append (Cond.codeWith yL_append cL_append 3 (some .int) [(0, 5, 6, 116)]) { frames := 9, cells := 1, slots := 6, locals := 151 } (KF ev) D g [.ref (ax 0), .int p1] (OW g ax ad x) (some (.int o.1)) (OW g ax ad o.2) 1 6 := by
  obtain ⟨⟨k, v, x2⟩, e1, h⟩ := bnd_p h
  obtain ⟨wc, wc', hN, b1, b2⟩ := nx_append l hfl ev.ak ev.av ev.aS D g ad ax p1 x k v x2 e1
  refine z_gh_start (by decide) (Nat.le_of_ble_eq_true rfl) ?_
  intro p e s m args below meth c Q A X hr hK hA ht hQ
  have hE := hK.1
  refine z_lv (lv' := [(0, .ref (ax 0)), (1, .int p1)]) rfl ?_
  refine z_aload_n X 0 dL_append_0 rfl rfl ?_
  refine z_iload_n X 1 dL_append_1 rfl rfl ?_
  refine z_exV (rest := []) (q0 := 0) (ci := 11) (ws' := OW g ax ad x2) X hE hA k_X11_append hN ql_L_X11_append dL_append_2 b1 b2 rfl rfl OW_0 rfl rfl ⟨Nat.le_of_ble_eq_true rfl, Nat.le_of_ble_eq_true rfl, rfl, rfl, Nat.le_of_ble_eq_true rfl, Nat.le_of_ble_eq_true rfl⟩ (Nat.le_of_ble_eq_true rfl) (fun hx => ?_) (fun hx => ?_)
  · have h := brn_t h hx
    cases h
    exact z_lret X hQ (Nat.le_of_ble_eq_true rfl) (Nat.le_of_ble_eq_true rfl) hr dL_append_5
  · have h := brn_f h hx
    by_cases n0 : k = 5
    · have h := brn_t h n0
      cases h
      rw [n0]
      refine z_catch (name := "java/lang/IllegalStateException") X [] ⟨0, 5, 6, 116⟩ [] (ht.trans rfl) (fun _ hz => absurd hz List.not_mem_nil) (by decide) (by decide) qk_L_IllegalStateException qca_IllegalStateException_IllegalStateException (fun q9 => ?_)
      refine z_astore_n X ((2, .ref q9) :: [(0, .ref (ax 0)), (1, .int p1)]) dL_append_6 rfl (by decide) rfl ?_
      refine z_bipush X (-14 : Int32) dL_append_7 (by decide) ?_
      exact z_lret X hQ (Nat.le_of_ble_eq_true rfl) (Nat.le_of_ble_eq_true rfl) hr dL_append_9
    have h := brn_f h n0
    cases h

theorem dL_runs_0 : decode cL_runs 0 = .ok (.aload_n 0, 1) := by decide +kernel
theorem dL_runs_1 : decode cL_runs 1 = .ok (.invokevirtual 118, 3) := by decide +kernel
theorem dL_runs_4 : decode cL_runs 4 = .ok (.ireturn, 1) := by decide +kernel
theorem dL_runs_5 : decode cL_runs 5 = .ok (.astore_n 1, 1) := by decide +kernel
theorem dL_runs_6 : decode cL_runs 6 = .ok (.iconst (-1), 1) := by decide +kernel
theorem dL_runs_7 : decode cL_runs 7 = .ok (.ireturn, 1) := by decide +kernel
theorem dL_runs_8 : decode cL_runs 8 = .ok (.astore_n 1, 1) := by decide +kernel
theorem dL_runs_9 : decode cL_runs 9 = .ok (.bipush (-2), 2) := by decide +kernel
theorem dL_runs_11 : decode cL_runs 11 = .ok (.ireturn, 1) := by decide +kernel
theorem qw_L_runs : Cond.codeWith yL_runs cL_runs 2 (some .int) [(0, 4, 5, 14), (0, 4, 8, 16)] ∈ lw_all := lw_m (lw_i7 (List.mem_of_getElem? (i := 159) (by decide +kernel))) (by decide +kernel)
theorem k_L_runs : cardS yL_runs (Cond.codeWith yL_runs cL_runs 2 (some .int) [(0, 4, 5, 14), (0, 4, 8, 16)]) 1 := ⟨qs_L_runs, qw_L_runs, qn_L, by decide +kernel, by decide +kernel, by decide +kernel⟩
def F_L_runs (x : XVal) : Option (Int32 × XVal) :=
  bnd (G_run x) (fun r => brn (r.1 = 0) (some (r.2.1, r.2.2)) (brn (r.1 = 2) (some ((-1 : Int32), r.2.2)) (brn (r.1 = 3) (some ((-2 : Int32), r.2.2)) (none))))
set_option maxHeartbeats 4000000 in
set_option maxRecDepth 100000 in
theorem c_L_runs (l : Launch) (hfl : l.stackTraces = false) (ev : LEv) (D : va_G) (g : Nat → ClassId) (ad : Nat → Nat → Nat) (ax : Nat → Nat) (x : XVal) (o : Int32 × XVal) (h : F_L_runs x = some o) : MG l yL_runs (Cond.codeWith yL_runs cL_runs 2 (some .int) [(0, 4, 5, 14), (0, 4, 8, 16)]) { frames := 10, cells := 4, slots := 24, locals := 182 } (KF ev) D g [.ref (ax 0)] (OW g ax ad x) (some (.int o.1)) (OW g ax ad o.2) 4 24 := by
  obtain ⟨⟨k, v, x2⟩, e1, h⟩ := bnd_p h
  obtain ⟨wc, wc', hN, b1, b2⟩ := nx_run l hfl ev.ak ev.av ev.aS D g ad ax x k v x2 e1
  refine z_gh_start (by decide) (Nat.le_of_ble_eq_true rfl) ?_
  intro p e s m args below meth c Q A X hr hK hA ht hQ
  have hE := hK.1
  refine z_lv (lv' := [(0, .ref (ax 0))]) rfl ?_
  refine z_aload_n X 0 dL_runs_0 rfl rfl ?_
  refine z_exV (rest := []) (q0 := 0) (ci := 11) (ws' := OW g ax ad x2) X hE hA k_X11_run hN ql_L_X11_run dL_runs_1 b1 b2 rfl rfl OW_0 rfl rfl ⟨Nat.le_of_ble_eq_true rfl, Nat.le_of_ble_eq_true rfl, rfl, rfl, Nat.le_of_ble_eq_true rfl, Nat.le_of_ble_eq_true rfl⟩ (Nat.le_of_ble_eq_true rfl) (fun hx => ?_) (fun hx => ?_)
  · have h := brn_t h hx
    cases h
    exact z_lret X hQ (Nat.le_of_ble_eq_true rfl) (Nat.le_of_ble_eq_true rfl) hr dL_runs_4
  · have h := brn_f h hx
    by_cases n0 : k = 2
    · have h := brn_t h n0
      cases h
      rw [n0]
      refine z_catch (name := "java/lang/IllegalArgumentException") X [] ⟨0, 4, 5, 14⟩ [⟨0, 4, 8, 16⟩] (ht.trans rfl) (fun _ hz => absurd hz List.not_mem_nil) (by decide) (by decide) qk_L_IllegalArgumentException qca_IllegalArgumentException_IllegalArgumentException (fun q9 => ?_)
      refine z_astore_n X ((1, .ref q9) :: [(0, .ref (ax 0))]) dL_runs_5 rfl (by decide) rfl ?_
      refine z_iconst X (-1 : Int32) dL_runs_6 (by decide) ?_
      exact z_lret X hQ (Nat.le_of_ble_eq_true rfl) (Nat.le_of_ble_eq_true rfl) hr dL_runs_7
    have h := brn_f h n0
    by_cases n1 : k = 3
    · have h := brn_t h n1
      cases h
      rw [n1]
      refine z_catch (name := "java/lang/UnsupportedOperationException") X [⟨0, 4, 5, 14⟩] ⟨0, 4, 8, 16⟩ [] (ht.trans rfl) (List.forall_mem_cons.mpr ⟨⟨by decide, _, qk_L_IllegalArgumentException, hE.2.2.1 ("java/lang/UnsupportedOperationException", "java/lang/IllegalArgumentException") (by decide +kernel)⟩, fun _ hz => absurd hz List.not_mem_nil⟩) (by decide) (by decide) qk_L_UnsupportedOperationException qca_UnsupportedOperationException_UnsupportedOperationException (fun q9 => ?_)
      refine z_astore_n X ((1, .ref q9) :: [(0, .ref (ax 0))]) dL_runs_8 rfl (by decide) rfl ?_
      refine z_bipush X (-2 : Int32) dL_runs_9 (by decide) ?_
      exact z_lret X hQ (Nat.le_of_ble_eq_true rfl) (Nat.le_of_ble_eq_true rfl) hr dL_runs_11
    have h := brn_f h n1
    cases h

theorem dL_refusal_0 : decode cL_refusal 0 = .ok (.aload_n 0, 1) := by decide +kernel
theorem dL_refusal_1 : decode cL_refusal 1 = .ok (.iload_n 1, 1) := by decide +kernel
theorem dL_refusal_2 : decode cL_refusal 2 = .ok (.invokevirtual 121, 3) := by decide +kernel
theorem dL_refusal_5 : decode cL_refusal 5 = .ok (.ireturn, 1) := by decide +kernel
theorem dL_refusal_6 : decode cL_refusal 6 = .ok (.astore_n 2, 1) := by decide +kernel
theorem dL_refusal_7 : decode cL_refusal 7 = .ok (.bipush (-101), 2) := by decide +kernel
theorem dL_refusal_9 : decode cL_refusal 9 = .ok (.ireturn, 1) := by decide +kernel
theorem qw_L_refusal : Cond.codeWith yL_refusal cL_refusal 3 (some .int) [(0, 5, 6, 49)] ∈ lw_all := lw_m (lw_i3 (List.mem_of_getElem? (i := 28) (by decide +kernel))) (by decide +kernel)
theorem k_L_refusal : cardS yL_refusal (Cond.codeWith yL_refusal cL_refusal 3 (some .int) [(0, 5, 6, 49)]) 2 := ⟨qs_L_refusal, qw_L_refusal, qn_L, by decide +kernel, by decide +kernel, by decide +kernel⟩
def F_L_refusal (p1 : Int32) (x : XVal) : Option (Int32) :=
  bnd (G_refusal p1 x) (fun r => brn (r.1 = 0) (some r.2.1) (brn (r.1 = 4) (some (-101 : Int32)) (none)))
set_option maxHeartbeats 4000000 in
set_option maxRecDepth 100000 in
theorem c_L_refusal (l : Launch) (hfl : l.stackTraces = false) (ev : LEv) (D : va_G) (g : Nat → ClassId) (ad : Nat → Nat → Nat) (ax : Nat → Nat) (p1 : Int32) (x : XVal) (o : Int32) (h : F_L_refusal p1 x = some o) : MG l yL_refusal (Cond.codeWith yL_refusal cL_refusal 3 (some .int) [(0, 5, 6, 49)]) { frames := 9, cells := 1, slots := 6, locals := 151 } (KF ev) D g [.ref (ax 0), .int p1] (OW g ax ad x) (some (.int o)) (OW g ax ad x) 1 6 := by
  obtain ⟨⟨k, v, x2⟩, e1, h⟩ := bnd_p h
  obtain ⟨wc, wc', hN, b1, b2, ex⟩ := nx_refusal l hfl ev.ak ev.av ev.aS D g ad ax p1 x k v x2 e1
  rw [ex] at b2
  refine z_gh_start (by decide) (Nat.le_of_ble_eq_true rfl) ?_
  intro p e s m args below meth c Q A X hr hK hA ht hQ
  have hE := hK.1
  refine z_lv (lv' := [(0, .ref (ax 0)), (1, .int p1)]) rfl ?_
  refine z_aload_n X 0 dL_refusal_0 rfl rfl ?_
  refine z_iload_n X 1 dL_refusal_1 rfl rfl ?_
  refine z_exV (rest := []) (q0 := 0) (ci := 11) (ws' := OW g ax ad x) X hE hA k_X11_refusal hN ql_L_X11_refusal dL_refusal_2 b1 b2 rfl rfl OW_0 rfl rfl ⟨Nat.le_of_ble_eq_true rfl, Nat.le_of_ble_eq_true rfl, rfl, rfl, Nat.le_of_ble_eq_true rfl, Nat.le_of_ble_eq_true rfl⟩ (Nat.le_of_ble_eq_true rfl) (fun hx => ?_) (fun hx => ?_)
  · have h := brn_t h hx
    cases h
    exact z_lret X hQ (Nat.le_of_ble_eq_true rfl) (Nat.le_of_ble_eq_true rfl) hr dL_refusal_5
  · have h := brn_f h hx
    by_cases n0 : k = 4
    · have h := brn_t h n0
      cases h
      rw [n0]
      refine z_catch (name := "java/util/NoSuchElementException") X [] ⟨0, 5, 6, 49⟩ [] (ht.trans rfl) (fun _ hz => absurd hz List.not_mem_nil) (by decide) (by decide) qk_L_NoSuchElementException qca_NoSuchElementException_NoSuchElementException (fun q9 => ?_)
      refine z_astore_n X ((2, .ref q9) :: [(0, .ref (ax 0)), (1, .int p1)]) dL_refusal_6 rfl (by decide) rfl ?_
      refine z_bipush X (-101 : Int32) dL_refusal_7 (by decide) ?_
      exact z_lret X hQ (Nat.le_of_ble_eq_true rfl) (Nat.le_of_ble_eq_true rfl) hr dL_refusal_9
    have h := brn_f h n0
    cases h

theorem dL_undo_0 : decode cL_undo 0 = .ok (.aload_n 0, 1) := by decide +kernel
theorem dL_undo_1 : decode cL_undo 1 = .ok (.invokevirtual 124, 3) := by decide +kernel
theorem dL_undo_4 : decode cL_undo 4 = .ok (.ireturn, 1) := by decide +kernel
theorem dL_undo_5 : decode cL_undo 5 = .ok (.astore_n 1, 1) := by decide +kernel
theorem dL_undo_6 : decode cL_undo 6 = .ok (.iconst (-1), 1) := by decide +kernel
theorem dL_undo_7 : decode cL_undo 7 = .ok (.ireturn, 1) := by decide +kernel
theorem qw_L_undo : Cond.codeWith yL_undo cL_undo 2 (some .int) [(0, 4, 5, 116)] ∈ lw_all := lw_m (lw_i7 (List.mem_of_getElem? (i := 237) (by decide +kernel))) (by decide +kernel)
theorem k_L_undo : cardS yL_undo (Cond.codeWith yL_undo cL_undo 2 (some .int) [(0, 4, 5, 116)]) 1 := ⟨qs_L_undo, qw_L_undo, qn_L, by decide +kernel, by decide +kernel, by decide +kernel⟩
def F_L_undo (x : XVal) : Option (Int32 × XVal) :=
  bnd (G_undo x) (fun r => brn (r.1 = 0) (some (r.2.1, r.2.2)) (brn (r.1 = 5) (some ((-1 : Int32), r.2.2)) (none)))
set_option maxHeartbeats 4000000 in
set_option maxRecDepth 100000 in
theorem c_L_undo (l : Launch) (hfl : l.stackTraces = false) (ev : LEv) (D : va_G) (g : Nat → ClassId) (ad : Nat → Nat → Nat) (ax : Nat → Nat) (x : XVal) (o : Int32 × XVal) (h : F_L_undo x = some o) : MG l yL_undo (Cond.codeWith yL_undo cL_undo 2 (some .int) [(0, 4, 5, 116)]) { frames := 9, cells := 1, slots := 6, locals := 150 } (KF ev) D g [.ref (ax 0)] (OW g ax ad x) (some (.int o.1)) (OW g ax ad o.2) 1 6 := by
  obtain ⟨⟨k, v, x2⟩, e1, h⟩ := bnd_p h
  obtain ⟨wc, wc', hN, b1, b2⟩ := nx_undo l hfl ev.ak ev.av ev.aS D g ad ax x k v x2 e1
  refine z_gh_start (by decide) (Nat.le_of_ble_eq_true rfl) ?_
  intro p e s m args below meth c Q A X hr hK hA ht hQ
  have hE := hK.1
  refine z_lv (lv' := [(0, .ref (ax 0))]) rfl ?_
  refine z_aload_n X 0 dL_undo_0 rfl rfl ?_
  refine z_exV (rest := []) (q0 := 0) (ci := 11) (ws' := OW g ax ad x2) X hE hA k_X11_undo hN ql_L_X11_undo dL_undo_1 b1 b2 rfl rfl OW_0 rfl rfl ⟨Nat.le_of_ble_eq_true rfl, Nat.le_of_ble_eq_true rfl, rfl, rfl, Nat.le_of_ble_eq_true rfl, Nat.le_of_ble_eq_true rfl⟩ (Nat.le_of_ble_eq_true rfl) (fun hx => ?_) (fun hx => ?_)
  · have h := brn_t h hx
    cases h
    exact z_lret X hQ (Nat.le_of_ble_eq_true rfl) (Nat.le_of_ble_eq_true rfl) hr dL_undo_4
  · have h := brn_f h hx
    by_cases n0 : k = 5
    · have h := brn_t h n0
      cases h
      rw [n0]
      refine z_catch (name := "java/lang/IllegalStateException") X [] ⟨0, 4, 5, 116⟩ [] (ht.trans rfl) (fun _ hz => absurd hz List.not_mem_nil) (by decide) (by decide) qk_L_IllegalStateException qca_IllegalStateException_IllegalStateException (fun q9 => ?_)
      refine z_astore_n X ((1, .ref q9) :: [(0, .ref (ax 0))]) dL_undo_5 rfl (by decide) rfl ?_
      refine z_iconst X (-1 : Int32) dL_undo_6 (by decide) ?_
      exact z_lret X hQ (Nat.le_of_ble_eq_true rfl) (Nat.le_of_ble_eq_true rfl) hr dL_undo_7
    have h := brn_f h n0
    cases h
