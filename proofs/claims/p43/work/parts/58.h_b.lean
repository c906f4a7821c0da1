theorem dL_heard_0 : decode cL_heard 0 = .ok (.aload_n 0, 1) := by decide +kernel
theorem dL_heard_1 : decode cL_heard 1 = .ok (.iload_n 1, 1) := by decide +kernel
theorem dL_heard_2 : decode cL_heard 2 = .ok (.iload_n 2, 1) := by decide +kernel
theorem dL_heard_3 : decode cL_heard 3 = .ok (.iload_n 3, 1) := by decide +kernel
theorem dL_heard_4 : decode cL_heard 4 = .ok (.invokevirtual 61, 3) := by decide +kernel
theorem dL_heard_7 : decode cL_heard 7 = .ok (.ireturn, 1) := by decide +kernel
theorem dL_heard_8 : decode cL_heard 8 = .ok (.astore 4, 2) := by decide +kernel
theorem dL_heard_10 : decode cL_heard 10 = .ok (.bipush (-11), 2) := by decide +kernel
theorem dL_heard_12 : decode cL_heard 12 = .ok (.ireturn, 1) := by decide +kernel
theorem dL_heard_13 : decode cL_heard 13 = .ok (.astore 4, 2) := by decide +kernel
theorem dL_heard_15 : decode cL_heard 15 = .ok (.bipush (-12), 2) := by decide +kernel
theorem dL_heard_17 : decode cL_heard 17 = .ok (.ireturn, 1) := by decide +kernel
theorem qw_L_heard : Cond.codeWith yL_heard cL_heard 5 (some .int) [(0, 7, 8, 22), (0, 7, 13, 14)] ∈ lw_all := lw_m (lw_i4 (List.mem_of_getElem? (i := 230) (by decide +kernel))) (by decide +kernel)
theorem k_L_heard : cardS yL_heard (Cond.codeWith yL_heard cL_heard 5 (some .int) [(0, 7, 8, 22), (0, 7, 13, 14)]) 4 := ⟨qs_L_heard, qw_L_heard, qn_L, by decide +kernel, by decide +kernel, by decide +kernel⟩
def F_L_heard (p1 : Int32) (p2 : Int32) (p3 : Int32) (x : XVal) : Option (Int32) :=
  bnd (G_heard p1 p2 p3 x) (fun r => brn (r.1 = 0) (some r.2.1) (brn (r.1 = 1) (some (-11 : Int32)) (brn (r.1 = 2) (some (-12 : Int32)) (none))))
set_option maxHeartbeats 4000000 in
set_option maxRecDepth 100000 in
theorem c_L_heard (l : Launch) (hfl : l.stackTraces = false) (ev : LEv) (D : va_G) (g : Nat → ClassId) (ad : Nat → Nat → Nat) (ax : Nat → Nat) (p1 : Int32) (p2 : Int32) (p3 : Int32) (x : XVal) (o : Int32) (h : F_L_heard p1 p2 p3 x = some o) : MG l yL_heard (Cond.codeWith yL_heard cL_heard 5 (some .int) [(0, 7, 8, 22), (0, 7, 13, 14)]) { frames := 10, cells := 3, slots := 18, locals := 173 } (KF ev) D g [.ref (ax 0), .int p1, .int p2, .int p3] (OW g ax ad x) (some (.int o)) (OW g ax ad x) 3 18 := by
  obtain ⟨⟨k, v, x2⟩, e1, h⟩ := bnd_p h
  obtain ⟨wc, wc', hN, b1, b2, ex⟩ := nx_heard l hfl ev.ak ev.av ev.aS D g ad ax p1 p2 p3 x k v x2 e1
  rw [ex] at b2
  refine z_gh_start (by decide) (Nat.le_of_ble_eq_true rfl) ?_
  intro p e s m args below meth c Q A X hr hK hA ht hQ
  have hE := hK.1
  refine z_lv (lv' := [(0, .ref (ax 0)), (1, .int p1), (2, .int p2), (3, .int p3)]) rfl ?_
  refine z_aload_n X 0 dL_heard_0 rfl rfl ?_
  refine z_iload_n X 1 dL_heard_1 rfl rfl ?_
  refine z_iload_n X 2 dL_heard_2 rfl rfl ?_
  refine z_iload_n X 3 dL_heard_3 rfl rfl ?_
  refine z_exV (rest := []) (q0 := 0) (ci := 11) (ws' := OW g ax ad x) X hE hA k_X11_heard hN ql_L_X11_heard dL_heard_4 b1 b2 rfl rfl OW_0 rfl rfl ⟨Nat.le_of_ble_eq_true rfl, Nat.le_of_ble_eq_true rfl, rfl, rfl, Nat.le_of_ble_eq_true rfl, Nat.le_of_ble_eq_true rfl⟩ (Nat.le_of_ble_eq_true rfl) (fun hx => ?_) (fun hx => ?_)
  · have h := brn_t h hx
    cases h
    exact z_lret X hQ (Nat.le_of_ble_eq_true rfl) (Nat.le_of_ble_eq_true rfl) hr dL_heard_7
  · have h := brn_f h hx
    by_cases n0 : k = 1
    · have h := brn_t h n0
      cases h
      rw [n0]
      refine z_catch (name := "java/lang/IndexOutOfBoundsException") X [] ⟨0, 7, 8, 22⟩ [⟨0, 7, 13, 14⟩] (ht.trans rfl) (fun _ hz => absurd hz List.not_mem_nil) (by decide) (by decide) qk_L_IndexOutOfBoundsException qca_IndexOutOfBoundsException_IndexOutOfBoundsException (fun q9 => ?_)
      refine z_astore X ((4, .ref q9) :: [(0, .ref (ax 0)), (1, .int p1), (2, .int p2), (3, .int p3)]) dL_heard_8 (by decide) rfl ?_
      refine z_bipush X (-11 : Int32) dL_heard_10 (by decide) ?_
      exact z_lret X hQ (Nat.le_of_ble_eq_true rfl) (Nat.le_of_ble_eq_true rfl) hr dL_heard_12
    have h := brn_f h n0
    by_cases n1 : k = 2
    · have h := brn_t h n1
      cases h
      rw [n1]
      refine z_catch (name := "java/lang/IllegalArgumentException") X [⟨0, 7, 8, 22⟩] ⟨0, 7, 13, 14⟩ [] (ht.trans rfl) (List.forall_mem_cons.mpr ⟨⟨by decide, _, qk_L_IndexOutOfBoundsException, hE.2.2.1 ("java/lang/IllegalArgumentException", "java/lang/IndexOutOfBoundsException") (by decide +kernel)⟩, fun _ hz => absurd hz List.not_mem_nil⟩) (by decide) (by decide) qk_L_IllegalArgumentException qca_IllegalArgumentException_IllegalArgumentException (fun q9 => ?_)
      refine z_astore X ((4, .ref q9) :: [(0, .ref (ax 0)), (1, .int p1), (2, .int p2), (3, .int p3)]) dL_heard_13 (by decide) rfl ?_
      refine z_bipush X (-12 : Int32) dL_heard_15 (by decide) ?_
      exact z_lret X hQ (Nat.le_of_ble_eq_true rfl) (Nat.le_of_ble_eq_true rfl) hr dL_heard_17
    have h := brn_f h n1
    cases h

theorem dL_rings_0 : decode cL_rings 0 = .ok (.aload_n 0, 1) := by decide +kernel
theorem dL_rings_1 : decode cL_rings 1 = .ok (.iload_n 1, 1) := by decide +kernel
theorem dL_rings_2 : decode cL_rings 2 = .ok (.invokevirtual 64, 3) := by decide +kernel
theorem dL_rings_5 : decode cL_rings 5 = .ok (.ireturn, 1) := by decide +kernel
theorem dL_rings_6 : decode cL_rings 6 = .ok (.astore_n 2, 1) := by decide +kernel
theorem dL_rings_7 : decode cL_rings 7 = .ok (.bipush (-12), 2) := by decide +kernel
theorem dL_rings_9 : decode cL_rings 9 = .ok (.ireturn, 1) := by decide +kernel
theorem qw_L_rings : Cond.codeWith yL_rings cL_rings 3 (some .int) [(0, 5, 6, 14)] ∈ lw_all := lw_m (lw_i4 (List.mem_of_getElem? (i := 142) (by decide +kernel))) (by decide +kernel)
theorem k_L_rings : cardS yL_rings (Cond.codeWith yL_rings cL_rings 3 (some .int) [(0, 5, 6, 14)]) 2 := ⟨qs_L_rings, qw_L_rings, qn_L, by decide +kernel, by decide +kernel, by decide +kernel⟩
def F_L_rings (p1 : Int32) (x : XVal) : Option (Int32) :=
  bnd (G_rings p1 x) (fun r => brn (r.1 = 0) (some r.2.1) (brn (r.1 = 2) (some (-12 : Int32)) (none)))
set_option maxHeartbeats 4000000 in
set_option maxRecDepth 100000 in
theorem c_L_rings (l : Launch) (hfl : l.stackTraces = false) (ev : LEv) (D : va_G) (g : Nat → ClassId) (ad : Nat → Nat → Nat) (ax : Nat → Nat) (p1 : Int32) (x : XVal) (o : Int32) (h : F_L_rings p1 x = some o) : MG l yL_rings (Cond.codeWith yL_rings cL_rings 3 (some .int) [(0, 5, 6, 14)]) { frames := 9, cells := 1, slots := 6, locals := 151 } (KF ev) D g [.ref (ax 0), .int p1] (OW g ax ad x) (some (.int o)) (OW g ax ad x) 1 6 := by
  obtain ⟨⟨k, v, x2⟩, e1, h⟩ := bnd_p h
  obtain ⟨wc, wc', hN, b1, b2, ex⟩ := nx_rings l hfl ev.ak ev.av ev.aS D g ad ax p1 x k v x2 e1
  rw [ex] at b2
  refine z_gh_start (by decide) (Nat.le_of_ble_eq_true rfl) ?_
  intro p e s m args below meth c Q A X hr hK hA ht hQ
  have hE := hK.1
  refine z_lv (lv' := [(0, .ref (ax 0)), (1, .int p1)]) rfl ?_
  refine z_aload_n X 0 dL_rings_0 rfl rfl ?_
  refine z_iload_n X 1 dL_rings_1 rfl rfl ?_
  refine z_exV (rest := []) (q0 := 0) (ci := 11) (ws' := OW g ax ad x) X hE hA k_X11_rings hN ql_L_X11_rings dL_rings_2 b1 b2 rfl rfl OW_0 rfl rfl ⟨Nat.le_of_ble_eq_true rfl, Nat.le_of_ble_eq_true rfl, rfl, rfl, Nat.le_of_ble_eq_true rfl, Nat.le_of_ble_eq_true rfl⟩ (Nat.le_of_ble_eq_true rfl) (fun hx => ?_) (fun hx => ?_)
  · have h := brn_t h hx
    cases h
    exact z_lret X hQ (Nat.le_of_ble_eq_true rfl) (Nat.le_of_ble_eq_true rfl) hr dL_rings_5
  · have h := brn_f h hx
    by_cases n0 : k = 2
    · have h := brn_t h n0
      cases h
      rw [n0]
      refine z_catch (name := "java/lang/IllegalArgumentException") X [] ⟨0, 5, 6, 14⟩ [] (ht.trans rfl) (fun _ hz => absurd hz List.not_mem_nil) (by decide) (by decide) qk_L_IllegalArgumentException qca_IllegalArgumentException_IllegalArgumentException (fun q9 => ?_)
      refine z_astore_n X ((2, .ref q9) :: [(0, .ref (ax 0)), (1, .int p1)]) dL_rings_6 rfl (by decide) rfl ?_
      refine z_bipush X (-12 : Int32) dL_rings_7 (by decide) ?_
      exact z_lret X hQ (Nat.le_of_ble_eq_true rfl) (Nat.le_of_ble_eq_true rfl) hr dL_rings_9
    have h := brn_f h n0
    cases h

theorem dL_post_0 : decode cL_post 0 = .ok (.aload_n 0, 1) := by decide +kernel
theorem dL_post_1 : decode cL_post 1 = .ok (.iload_n 1, 1) := by decide +kernel
theorem dL_post_2 : decode cL_post 2 = .ok (.invokevirtual 67, 3) := by decide +kernel
theorem dL_post_5 : decode cL_post 5 = .ok (.ireturn, 1) := by decide +kernel
theorem dL_post_6 : decode cL_post 6 = .ok (.astore_n 2, 1) := by decide +kernel
theorem dL_post_7 : decode cL_post 7 = .ok (.iconst (-1), 1) := by decide +kernel
theorem dL_post_8 : decode cL_post 8 = .ok (.ireturn, 1) := by decide +kernel
theorem dL_post_9 : decode cL_post 9 = .ok (.astore_n 2, 1) := by decide +kernel
theorem dL_post_10 : decode cL_post 10 = .ok (.bipush (-2), 2) := by decide +kernel
theorem dL_post_12 : decode cL_post 12 = .ok (.ireturn, 1) := by decide +kernel
theorem qw_L_post : Cond.codeWith yL_post cL_post 3 (some .int) [(0, 5, 6, 14), (0, 5, 9, 16)] ∈ lw_all := lw_m (lw_i3 (List.mem_of_getElem? (i := 98) (by decide +kernel))) (by decide +kernel)
theorem k_L_post : cardS yL_post (Cond.codeWith yL_post cL_post 3 (some .int) [(0, 5, 6, 14), (0, 5, 9, 16)]) 2 := ⟨qs_L_post, qw_L_post, qn_L, by decide +kernel, by decide +kernel, by decide +kernel⟩
def F_L_post (p1 : Int32) (x : XVal) : Option (Int32 × XVal) :=
  bnd (G_post p1 x) (fun r => brn (r.1 = 0) (some (r.2.1, r.2.2)) (brn (r.1 = 2) (some ((-1 : Int32), r.2.2)) (brn (r.1 = 3) (some ((-2 : Int32), r.2.2)) (none))))
set_option maxHeartbeats 4000000 in
set_option maxRecDepth 100000 in
theorem c_L_post (l : Launch) (hfl : l.stackTraces = false) (ev : LEv) (D : va_G) (g : Nat → ClassId) (ad : Nat → Nat → Nat) (ax : Nat → Nat) (p1 : Int32) (x : XVal) (o : Int32 × XVal) (h : F_L_post p1 x = some o) : MG l yL_post (Cond.codeWith yL_post cL_post 3 (some .int) [(0, 5, 6, 14), (0, 5, 9, 16)]) { frames := 10, cells := 3, slots := 18, locals := 171 } (KF ev) D g [.ref (ax 0), .int p1] (OW g ax ad x) (some (.int o.1)) (OW g ax ad o.2) 3 18 := by
  obtain ⟨⟨k, v, x2⟩, e1, h⟩ := bnd_p h
  obtain ⟨wc, wc', hN, b1, b2⟩ := nx_post l hfl ev.ak ev.av ev.aS D g ad ax p1 x k v x2 e1
  refine z_gh_start (by decide) (Nat.le_of_ble_eq_true rfl) ?_
  intro p e s m args below meth c Q A X hr hK hA ht hQ
  have hE := hK.1
  refine z_lv (lv' := [(0, .ref (ax 0)), (1, .int p1)]) rfl ?_
  refine z_aload_n X 0 dL_post_0 rfl rfl ?_
  refine z_iload_n X 1 dL_post_1 rfl rfl ?_
  refine z_exV (rest := []) (q0 := 0) (ci := 11) (ws' := OW g ax ad x2) X hE hA k_X11_post hN ql_L_X11_post dL_post_2 b1 b2 rfl rfl OW_0 rfl rfl ⟨Nat.le_of_ble_eq_true rfl, Nat.le_of_ble_eq_true rfl, rfl, rfl, Nat.le_of_ble_eq_true rfl, Nat.le_of_ble_eq_true rfl⟩ (Nat.le_of_ble_eq_true rfl) (fun hx => ?_) (fun hx => ?_)
  · have h := brn_t h hx
    cases h
    exact z_lret X hQ (Nat.le_of_ble_eq_true rfl) (Nat.le_of_ble_eq_true rfl) hr dL_post_5
  · have h := brn_f h hx
    by_cases n0 : k = 2
    · have h := brn_t h n0
      cases h
      rw [n0]
      refine z_catch (name := "java/lang/IllegalArgumentException") X [] ⟨0, 5, 6, 14⟩ [⟨0, 5, 9, 16⟩] (ht.trans rfl) (fun _ hz => absurd hz List.not_mem_nil) (by decide) (by decide) qk_L_IllegalArgumentException qca_IllegalArgumentException_IllegalArgumentException (fun q9 => ?_)
      refine z_astore_n X ((2, .ref q9) :: [(0, .ref (ax 0)), (1, .int p1)]) dL_post_6 rfl (by decide) rfl ?_
      refine z_iconst X (-1 : Int32) dL_post_7 (by decide) ?_
      exact z_lret X hQ (Nat.le_of_ble_eq_true rfl) (Nat.le_of_ble_eq_true rfl) hr dL_post_8
    have h := brn_f h n0
    by_cases n1 : k = 3
    · have h := brn_t h n1
      cases h
      rw [n1]
      refine z_catch (name := "java/lang/UnsupportedOperationException") X [⟨0, 5, 6, 14⟩] ⟨0, 5, 9, 16⟩ [] (ht.trans rfl) (List.forall_mem_cons.mpr ⟨⟨by decide, _, qk_L_IllegalArgumentException, hE.2.2.1 ("java/lang/UnsupportedOperationException", "java/lang/IllegalArgumentException") (by decide +kernel)⟩, fun _ hz => absurd hz List.not_mem_nil⟩) (by decide) (by decide) qk_L_UnsupportedOperationException qca_UnsupportedOperationException_UnsupportedOperationException (fun q9 => ?_)
      refine z_astore_n X ((2, .ref q9) :: [(0, .ref (ax 0)), (1, .int p1)]) dL_post_9 rfl (by decide) rfl ?_
      refine z_bipush X (-2 : Int32) dL_post_10 (by decide) ?_
      exact z_lret X hQ (Nat.le_of_ble_eq_true rfl) (Nat.le_of_ble_eq_true rfl) hr dL_post_12
    have h := brn_f h n1
    cases h

theorem dL_dropPost_0 : decode cL_dropPost 0 = .ok (.aload_n 0, 1) := by decide +kernel
theorem dL_dropPost_1 : decode cL_dropPost 1 = .ok (.iload_n 1, 1) := by decide +kernel
theorem dL_dropPost_2 : decode cL_dropPost 2 = .ok (.invokevirtual 70, 3) := by decide +kernel
theorem dL_dropPost_5 : decode cL_dropPost 5 = .ok (.ireturn, 1) := by decide +kernel
theorem dL_dropPost_6 : decode cL_dropPost 6 = .ok (.astore_n 2, 1) := by decide +kernel
theorem dL_dropPost_7 : decode cL_dropPost 7 = .ok (.iconst (-1), 1) := by decide +kernel
theorem dL_dropPost_8 : decode cL_dropPost 8 = .ok (.ireturn, 1) := by decide +kernel
theorem qw_L_dropPost : Cond.codeWith yL_dropPost cL_dropPost 3 (some .int) [(0, 5, 6, 22)] ∈ lw_all := lw_m (lw_i7 (List.mem_of_getElem? (i := 105) (by decide +kernel))) (by decide +kernel)
theorem k_L_dropPost : cardS yL_dropPost (Cond.codeWith yL_dropPost cL_dropPost 3 (some .int) [(0, 5, 6, 22)]) 2 := ⟨qs_L_dropPost, qw_L_dropPost, qn_L, by decide +kernel, by decide +kernel, by decide +kernel⟩
def F_L_dropPost (p1 : Int32) (x : XVal) : Option (Int32 × XVal) :=
  bnd (G_dropPost p1 x) (fun r => brn (r.1 = 0) (some (r.2.1, r.2.2)) (brn (r.1 = 1) (some ((-1 : Int32), r.2.2)) (none)))
set_option maxHeartbeats 4000000 in
set_option maxRecDepth 100000 in
theorem c_L_dropPost (l : Launch) (hfl : l.stackTraces = false) (ev : LEv) (D : va_G) (g : Nat → ClassId) (ad : Nat → Nat → Nat) (ax : Nat → Nat) (p1 : Int32) (x : XVal) (o : Int32 × XVal) (h : F_L_dropPost p1 x = some o) : MG l yL_dropPost (Cond.codeWith yL_dropPost cL_dropPost 3 (some .int) [(0, 5, 6, 22)]) { frames := 9, cells := 1, slots := 6, locals := 151 } (KF ev) D g [.ref (ax 0), .int p1] (OW g ax ad x) (some (.int o.1)) (OW g ax ad o.2) 1 6 := by
  obtain ⟨⟨k, v, x2⟩, e1, h⟩ := bnd_p h
  obtain ⟨wc, wc', hN, b1, b2⟩ := nx_dropPost l hfl ev.ak ev.av ev.aS D g ad ax p1 x k v x2 e1
  refine z_gh_start (by decide) (Nat.le_of_ble_eq_true rfl) ?_
  intro p e s m args below meth c Q A X hr hK hA ht hQ
  have hE := hK.1
  refine z_lv (lv' := [(0, .ref (ax 0)), (1, .int p1)]) rfl ?_
  refine z_aload_n X 0 dL_dropPost_0 rfl rfl ?_
  refine z_iload_n X 1 dL_dropPost_1 rfl rfl ?_
  refine z_exV (rest := []) (q0 := 0) (ci := 11) (ws' := OW g ax ad x2) X hE hA k_X11_dropPost hN ql_L_X11_dropPost dL_dropPost_2 b1 b2 rfl rfl OW_0 rfl rfl ⟨Nat.le_of_ble_eq_true rfl, Nat.le_of_ble_eq_true rfl, rfl, rfl, Nat.le_of_ble_eq_true rfl, Nat.le_of_ble_eq_true rfl⟩ (Nat.le_of_ble_eq_true rfl) (fun hx => ?_) (fun hx => ?_)
  · have h := brn_t h hx
    cases h
    exact z_lret X hQ (Nat.le_of_ble_eq_true rfl) (Nat.le_of_ble_eq_true rfl) hr dL_dropPost_5
  · have h := brn_f h hx
    by_cases n0 : k = 1
    · have h := brn_t h n0
      cases h
      rw [n0]
      refine z_catch (name := "java/lang/IndexOutOfBoundsException") X [] ⟨0, 5, 6, 22⟩ [] (ht.trans rfl) (fun _ hz => absurd hz List.not_mem_nil) (by decide) (by decide) qk_L_IndexOutOfBoundsException qca_IndexOutOfBoundsException_IndexOutOfBoundsException (fun q9 => ?_)
      refine z_astore_n X ((2, .ref q9) :: [(0, .ref (ax 0)), (1, .int p1)]) dL_dropPost_6 rfl (by decide) rfl ?_
      refine z_iconst X (-1 : Int32) dL_dropPost_7 (by decide) ?_
      exact z_lret X hQ (Nat.le_of_ble_eq_true rfl) (Nat.le_of_ble_eq_true rfl) hr dL_dropPost_8
    have h := brn_f h n0
    cases h

theorem dL_tell_0 : decode cL_tell 0 = .ok (.aload_n 0, 1) := by decide +kernel
theorem dL_tell_1 : decode cL_tell 1 = .ok (.iload_n 1, 1) := by decide +kernel
theorem dL_tell_2 : decode cL_tell 2 = .ok (.iload_n 2, 1) := by decide +kernel
theorem dL_tell_3 : decode cL_tell 3 = .ok (.invokevirtual 73, 3) := by decide +kernel
theorem dL_tell_6 : decode cL_tell 6 = .ok (.ireturn, 1) := by decide +kernel
theorem dL_tell_7 : decode cL_tell 7 = .ok (.astore_n 3, 1) := by decide +kernel
theorem dL_tell_8 : decode cL_tell 8 = .ok (.iconst (-1), 1) := by decide +kernel
theorem dL_tell_9 : decode cL_tell 9 = .ok (.ireturn, 1) := by decide +kernel
theorem dL_tell_10 : decode cL_tell 10 = .ok (.astore_n 3, 1) := by decide +kernel
theorem dL_tell_11 : decode cL_tell 11 = .ok (.bipush (-2), 2) := by decide +kernel
theorem dL_tell_13 : decode cL_tell 13 = .ok (.ireturn, 1) := by decide +kernel
theorem dL_tell_14 : decode cL_tell 14 = .ok (.astore_n 3, 1) := by decide +kernel
theorem dL_tell_15 : decode cL_tell 15 = .ok (.bipush (-3), 2) := by decide +kernel
theorem dL_tell_17 : decode cL_tell 17 = .ok (.ireturn, 1) := by decide +kernel
theorem qw_L_tell : Cond.codeWith yL_tell cL_tell 4 (some .int) [(0, 6, 7, 22), (0, 6, 10, 14), (0, 6, 14, 16)] ∈ lw_all := lw_m (lw_i4 (List.mem_of_getElem? (i := 42) (by decide +kernel))) (by decide +kernel)
theorem k_L_tell : cardS yL_tell (Cond.codeWith yL_tell cL_tell 4 (some .int) [(0, 6, 7, 22), (0, 6, 10, 14), (0, 6, 14, 16)]) 3 := ⟨qs_L_tell, qw_L_tell, qn_L, by decide +kernel, by decide +kernel, by decide +kernel⟩
def F_L_tell (p1 : Int32) (p2 : Int32) (x : XVal) : Option (Int32 × XVal) :=
  bnd (G_tell p1 p2 x) (fun r => brn (r.1 = 0) (some (r.2.1, r.2.2)) (brn (r.1 = 1) (some ((-1 : Int32), r.2.2)) (brn (r.1 = 2) (some ((-2 : Int32), r.2.2)) (brn (r.1 = 3) (some ((-3 : Int32), r.2.2)) (none)))))
set_option maxHeartbeats 4000000 in
set_option maxRecDepth 100000 in
theorem c_L_tell (l : Launch) (hfl : l.stackTraces = false) (ev : LEv) (D : va_G) (g : Nat → ClassId) (ad : Nat → Nat → Nat) (ax : Nat → Nat) (p1 : Int32) (p2 : Int32) (x : XVal) (o : Int32 × XVal) (h : F_L_tell p1 p2 x = some o) : MG l yL_tell (Cond.codeWith yL_tell cL_tell 4 (some .int) [(0, 6, 7, 22), (0, 6, 10, 14), (0, 6, 14, 16)]) { frames := 10, cells := 3, slots := 18, locals := 172 } (KF ev) D g [.ref (ax 0), .int p1, .int p2] (OW g ax ad x) (some (.int o.1)) (OW g ax ad o.2) 3 18 := by
  obtain ⟨⟨k, v, x2⟩, e1, h⟩ := bnd_p h
  obtain ⟨wc, wc', hN, b1, b2⟩ := nx_tell l hfl ev.ak ev.av ev.aS D g ad ax p1 p2 x k v x2 e1
  refine z_gh_start (by decide) (Nat.le_of_ble_eq_true rfl) ?_
  intro p e s m args below meth c Q A X hr hK hA ht hQ
  have hE := hK.1
  refine z_lv (lv' := [(0, .ref (ax 0)), (1, .int p1), (2, .int p2)]) rfl ?_
  refine z_aload_n X 0 dL_tell_0 rfl rfl ?_
  refine z_iload_n X 1 dL_tell_1 rfl rfl ?_
  refine z_iload_n X 2 dL_tell_2 rfl rfl ?_
  refine z_exV (rest := []) (q0 := 0) (ci := 11) (ws' := OW g ax ad x2) X hE hA k_X11_tell hN ql_L_X11_tell dL_tell_3 b1 b2 rfl rfl OW_0 rfl rfl ⟨Nat.le_of_ble_eq_true rfl, Nat.le_of_ble_eq_true rfl, rfl, rfl, Nat.le_of_ble_eq_true rfl, Nat.le_of_ble_eq_true rfl⟩ (Nat.le_of_ble_eq_true rfl) (fun hx => ?_) (fun hx => ?_)
  · have h := brn_t h hx
    cases h
    exact z_lret X hQ (Nat.le_of_ble_eq_true rfl) (Nat.le_of_ble_eq_true rfl) hr dL_tell_6
  · have h := brn_f h hx
    by_cases n0 : k = 1
    · have h := brn_t h n0
      cases h
      rw [n0]
      refine z_catch (name := "java/lang/IndexOutOfBoundsException") X [] ⟨0, 6, 7, 22⟩ [⟨0, 6, 10, 14⟩, ⟨0, 6, 14, 16⟩] (ht.trans rfl) (fun _ hz => absurd hz List.not_mem_nil) (by decide) (by decide) qk_L_IndexOutOfBoundsException qca_IndexOutOfBoundsException_IndexOutOfBoundsException (fun q9 => ?_)
      refine z_astore_n X ((3, .ref q9) :: [(0, .ref (ax 0)), (1, .int p1), (2, .int p2)]) dL_tell_7 rfl (by decide) rfl ?_
      refine z_iconst X (-1 : Int32) dL_tell_8 (by decide) ?_
      exact z_lret X hQ (Nat.le_of_ble_eq_true rfl) (Nat.le_of_ble_eq_true rfl) hr dL_tell_9
    have h := brn_f h n0
    by_cases n1 : k = 2
    · have h := brn_t h n1
      cases h
      rw [n1]
      refine z_catch (name := "java/lang/IllegalArgumentException") X [⟨0, 6, 7, 22⟩] ⟨0, 6, 10, 14⟩ [⟨0, 6, 14, 16⟩] (ht.trans rfl) (List.forall_mem_cons.mpr ⟨⟨by decide, _, qk_L_IndexOutOfBoundsException, hE.2.2.1 ("java/lang/IllegalArgumentException", "java/lang/IndexOutOfBoundsException") (by decide +kernel)⟩, fun _ hz => absurd hz List.not_mem_nil⟩) (by decide) (by decide) qk_L_IllegalArgumentException qca_IllegalArgumentException_IllegalArgumentException (fun q9 => ?_)
      refine z_astore_n X ((3, .ref q9) :: [(0, .ref (ax 0)), (1, .int p1), (2, .int p2)]) dL_tell_10 rfl (by decide) rfl ?_
      refine z_bipush X (-2 : Int32) dL_tell_11 (by decide) ?_
      exact z_lret X hQ (Nat.le_of_ble_eq_true rfl) (Nat.le_of_ble_eq_true rfl) hr dL_tell_13
    have h := brn_f h n1
    by_cases n2 : k = 3
    · have h := brn_t h n2
      cases h
      rw [n2]
      refine z_catch (name := "java/lang/UnsupportedOperationException") X [⟨0, 6, 7, 22⟩, ⟨0, 6, 10, 14⟩] ⟨0, 6, 14, 16⟩ [] (ht.trans rfl) (List.forall_mem_cons.mpr ⟨⟨by decide, _, qk_L_IndexOutOfBoundsException, hE.2.2.1 ("java/lang/UnsupportedOperationException", "java/lang/IndexOutOfBoundsException") (by decide +kernel)⟩, List.forall_mem_cons.mpr ⟨⟨by decide, _, qk_L_IllegalArgumentException, hE.2.2.1 ("java/lang/UnsupportedOperationException", "java/lang/IllegalArgumentException") (by decide +kernel)⟩, fun _ hz => absurd hz List.not_mem_nil⟩⟩) (by decide) (by decide) qk_L_UnsupportedOperationException qca_UnsupportedOperationException_UnsupportedOperationException (fun q9 => ?_)
      refine z_astore_n X ((3, .ref q9) :: [(0, .ref (ax 0)), (1, .int p1), (2, .int p2)]) dL_tell_14 rfl (by decide) rfl ?_
      refine z_bipush X (-3 : Int32) dL_tell_15 (by decide) ?_
      exact z_lret X hQ (Nat.le_of_ble_eq_true rfl) (Nat.le_of_ble_eq_true rfl) hr dL_tell_17
    have h := brn_f h n2
    cases h

theorem dL_postOf_0 : decode cL_postOf 0 = .ok (.aload_n 0, 1) := by decide +kernel
theorem dL_postOf_1 : decode cL_postOf 1 = .ok (.iload_n 1, 1) := by decide +kernel
theorem dL_postOf_2 : decode cL_postOf 2 = .ok (.iload_n 2, 1) := by decide +kernel
theorem dL_postOf_3 : decode cL_postOf 3 = .ok (.invokevirtual 76, 3) := by decide +kernel
theorem dL_postOf_6 : decode cL_postOf 6 = .ok (.ireturn, 1) := by decide +kernel
theorem dL_postOf_7 : decode cL_postOf 7 = .ok (.astore_n 3, 1) := by decide +kernel
theorem dL_postOf_8 : decode cL_postOf 8 = .ok (.bipush (-11), 2) := by decide +kernel
theorem dL_postOf_10 : decode cL_postOf 10 = .ok (.ireturn, 1) := by decide +kernel
theorem dL_postOf_11 : decode cL_postOf 11 = .ok (.astore_n 3, 1) := by decide +kernel
theorem dL_postOf_12 : decode cL_postOf 12 = .ok (.bipush (-12), 2) := by decide +kernel
theorem dL_postOf_14 : decode cL_postOf 14 = .ok (.ireturn, 1) := by decide +kernel
theorem dL_postOf_15 : decode cL_postOf 15 = .ok (.astore_n 3, 1) := by decide +kernel
theorem dL_postOf_16 : decode cL_postOf 16 = .ok (.bipush (-13), 2) := by decide +kernel
theorem dL_postOf_18 : decode cL_postOf 18 = .ok (.ireturn, 1) := by decide +kernel
theorem qw_L_postOf : Cond.codeWith yL_postOf cL_postOf 4 (some .int) [(0, 6, 7, 22), (0, 6, 11, 14), (0, 6, 15, 49)] ∈ lw_all := lw_m (lw_i5 (List.mem_of_getElem? (i := 4) (by decide +kernel))) (by decide +kernel)
theorem k_L_postOf : cardS yL_postOf (Cond.codeWith yL_postOf cL_postOf 4 (some .int) [(0, 6, 7, 22), (0, 6, 11, 14), (0, 6, 15, 49)]) 3 := ⟨qs_L_postOf, qw_L_postOf, qn_L, by decide +kernel, by decide +kernel, by decide +kernel⟩
def F_L_postOf (p1 : Int32) (p2 : Int32) (x : XVal) : Option (Int32) :=
  bnd (G_postOf p1 p2 x) (fun r => brn (r.1 = 0) (some r.2.1) (brn (r.1 = 1) (some (-11 : Int32)) (brn (r.1 = 2) (some (-12 : Int32)) (brn (r.1 = 4) (some (-13 : Int32)) (none)))))
set_option maxHeartbeats 4000000 in
set_option maxRecDepth 100000 in
theorem c_L_postOf (l : Launch) (hfl : l.stackTraces = false) (ev : LEv) (D : va_G) (g : Nat → ClassId) (ad : Nat → Nat → Nat) (ax : Nat → Nat) (p1 : Int32) (p2 : Int32) (x : XVal) (o : Int32) (h : F_L_postOf p1 p2 x = some o) : MG l yL_postOf (Cond.codeWith yL_postOf cL_postOf 4 (some .int) [(0, 6, 7, 22), (0, 6, 11, 14), (0, 6, 15, 49)]) { frames := 9, cells := 3, slots := 18, locals := 152 } (KF ev) D g [.ref (ax 0), .int p1, .int p2] (OW g ax ad x) (some (.int o)) (OW g ax ad x) 3 18 := by
  obtain ⟨⟨k, v, x2⟩, e1, h⟩ := bnd_p h
  obtain ⟨wc, wc', hN, b1, b2, ex⟩ := nx_postOf l hfl ev.ak ev.av ev.aS D g ad ax p1 p2 x k v x2 e1
  rw [ex] at b2
  refine z_gh_start (by decide) (Nat.le_of_ble_eq_true rfl) ?_
  intro p e s m args below meth c Q A X hr hK hA ht hQ
  have hE := hK.1
  refine z_lv (lv' := [(0, .ref (ax 0)), (1, .int p1), (2, .int p2)]) rfl ?_
  refine z_aload_n X 0 dL_postOf_0 rfl rfl ?_
  refine z_iload_n X 1 dL_postOf_1 rfl rfl ?_
  refine z_iload_n X 2 dL_postOf_2 rfl rfl ?_
  refine z_exV (rest := []) (q0 := 0) (ci := 11) (ws' := OW g ax ad x) X hE hA k_X11_postOf hN ql_L_X11_postOf dL_postOf_3 b1 b2 rfl rfl OW_0 rfl rfl ⟨Nat.le_of_ble_eq_true rfl, Nat.le_of_ble_eq_true rfl, rfl, rfl, Nat.le_of_ble_eq_true rfl, Nat.le_of_ble_eq_true rfl⟩ (Nat.le_of_ble_eq_true rfl) (fun hx => ?_) (fun hx => ?_)
  · have h := brn_t h hx
    cases h
    exact z_lret X hQ (Nat.le_of_ble_eq_true rfl) (Nat.le_of_ble_eq_true rfl) hr dL_postOf_6
  · have h := brn_f h hx
    by_cases n0 : k = 1
    · have h := brn_t h n0
      cases h
      rw [n0]
      refine z_catch (name := "java/lang/IndexOutOfBoundsException") X [] ⟨0, 6, 7, 22⟩ [⟨0, 6, 11, 14⟩, ⟨0, 6, 15, 49⟩] (ht.trans rfl) (fun _ hz => absurd hz List.not_mem_nil) (by decide) (by decide) qk_L_IndexOutOfBoundsException qca_IndexOutOfBoundsException_IndexOutOfBoundsException (fun q9 => ?_)
      refine z_astore_n X ((3, .ref q9) :: [(0, .ref (ax 0)), (1, .int p1), (2, .int p2)]) dL_postOf_7 rfl (by decide) rfl ?_
      refine z_bipush X (-11 : Int32) dL_postOf_8 (by decide) ?_
      exact z_lret X hQ (Nat.le_of_ble_eq_true rfl) (Nat.le_of_ble_eq_true rfl) hr dL_postOf_10
    have h := brn_f h n0
    by_cases n1 : k = 2
    · have h := brn_t h n1
      cases h
      rw [n1]
      refine z_catch (name := "java/lang/IllegalArgumentException") X [⟨0, 6, 7, 22⟩] ⟨0, 6, 11, 14⟩ [⟨0, 6, 15, 49⟩] (ht.trans rfl) (List.forall_mem_cons.mpr ⟨⟨by decide, _, qk_L_IndexOutOfBoundsException, hE.2.2.1 ("java/lang/IllegalArgumentException", "java/lang/IndexOutOfBoundsException") (by decide +kernel)⟩, fun _ hz => absurd hz List.not_mem_nil⟩) (by decide) (by decide) qk_L_IllegalArgumentException qca_IllegalArgumentException_IllegalArgumentException (fun q9 => ?_)
      refine z_astore_n X ((3, .ref q9) :: [(0, .ref (ax 0)), (1, .int p1), (2, .int p2)]) dL_postOf_11 rfl (by decide) rfl ?_
      refine z_bipush X (-12 : Int32) dL_postOf_12 (by decide) ?_
      exact z_lret X hQ (Nat.le_of_ble_eq_true rfl) (Nat.le_of_ble_eq_true rfl) hr dL_postOf_14
    have h := brn_f h n1
    by_cases n2 : k = 4
    · have h := brn_t h n2
      cases h
      rw [n2]
      refine z_catch (name := "java/util/NoSuchElementException") X [⟨0, 6, 7, 22⟩, ⟨0, 6, 11, 14⟩] ⟨0, 6, 15, 49⟩ [] (ht.trans rfl) (List.forall_mem_cons.mpr ⟨⟨by decide, _, qk_L_IndexOutOfBoundsException, hE.2.2.1 ("java/util/NoSuchElementException", "java/lang/IndexOutOfBoundsException") (by decide +kernel)⟩, List.forall_mem_cons.mpr ⟨⟨by decide, _, qk_L_IllegalArgumentException, hE.2.2.1 ("java/util/NoSuchElementException", "java/lang/IllegalArgumentException") (by decide +kernel)⟩, fun _ hz => absurd hz List.not_mem_nil⟩⟩) (by decide) (by decide) qk_L_NoSuchElementException qca_NoSuchElementException_NoSuchElementException (fun q9 => ?_)
      refine z_astore_n X ((3, .ref q9) :: [(0, .ref (ax 0)), (1, .int p1), (2, .int p2)]) dL_postOf_15 rfl (by decide) rfl ?_
      refine z_bipush X (-13 : Int32) dL_postOf_16 (by decide) ?_
      exact z_lret X hQ (Nat.le_of_ble_eq_true rfl) (Nat.le_of_ble_eq_true rfl) hr dL_postOf_18
    have h := brn_f h n2
    cases h

theorem dL_fits_0 : decode cL_fits 0 = .ok (.aload_n 0, 1) := by decide +kernel
theorem dL_fits_1 : decode cL_fits 1 = .ok (.iload_n 1, 1) := by decide +kernel
theorem dL_fits_2 : decode cL_fits 2 = .ok (.invokevirtual 79, 3) := by decide +kernel
theorem dL_fits_5 : decode cL_fits 5 = .ok (.ifCond .eq 7, 3) := by decide +kernel
theorem dL_fits_8 : decode cL_fits 8 = .ok (.iconst 1, 1) := by decide +kernel
theorem dL_fits_9 : decode cL_fits 9 = .ok (.goto 4, 3) := by decide +kernel
theorem dL_fits_12 : decode cL_fits 12 = .ok (.iconst 0, 1) := by decide +kernel
theorem dL_fits_13 : decode cL_fits 13 = .ok (.ireturn, 1) := by decide +kernel
theorem dL_fits_14 : decode cL_fits 14 = .ok (.astore_n 2, 1) := by decide +kernel
theorem dL_fits_15 : decode cL_fits 15 = .ok (.bipush (-12), 2) := by decide +kernel
theorem dL_fits_17 : decode cL_fits 17 = .ok (.ireturn, 1) := by decide +kernel
theorem dL_fits_18 : decode cL_fits 18 = .ok (.astore_n 2, 1) := by decide +kernel
theorem dL_fits_19 : decode cL_fits 19 = .ok (.bipush (-13), 2) := by decide +kernel
theorem dL_fits_21 : decode cL_fits 21 = .ok (.ireturn, 1) := by decide +kernel
theorem qw_L_fits : Cond.codeWith yL_fits cL_fits 3 (some .int) [(0, 13, 14, 14), (0, 13, 18, 49)] ∈ lw_all := lw_m (lw_i5 (List.mem_of_getElem? (i := 14) (by decide +kernel))) (by decide +kernel)
theorem k_L_fits : cardS yL_fits (Cond.codeWith yL_fits cL_fits 3 (some .int) [(0, 13, 14, 14), (0, 13, 18, 49)]) 2 := ⟨qs_L_fits, qw_L_fits, qn_L, by decide +kernel, by decide +kernel, by decide +kernel⟩
def F_L_fits (p1 : Int32) (x : XVal) : Option (Int32) :=
  bnd (G_fits p1 x) (fun r => brn (r.1 = 0) (brn (r.2.1 = 0) (some (0 : Int32)) (some (1 : Int32))) (brn (r.1 = 2) (some (-12 : Int32)) (brn (r.1 = 4) (some (-13 : Int32)) (none))))
set_option maxHeartbeats 4000000 in
set_option maxRecDepth 100000 in
theorem c_L_fits (l : Launch) (hfl : l.stackTraces = false) (ev : LEv) (D : va_G) (g : Nat → ClassId) (ad : Nat → Nat → Nat) (ax : Nat → Nat) (p1 : Int32) (x : XVal) (o : Int32) (h : F_L_fits p1 x = some o) : MG l yL_fits (Cond.codeWith yL_fits cL_fits 3 (some .int) [(0, 13, 14, 14), (0, 13, 18, 49)]) { frames := 9, cells := 2, slots := 12, locals := 151 } (KF ev) D g [.ref (ax 0), .int p1] (OW g ax ad x) (some (.int o)) (OW g ax ad x) 2 12 := by
  obtain ⟨⟨k, v, x2⟩, e1, h⟩ := bnd_p h
  obtain ⟨wc, wc', hN, b1, b2, ex⟩ := nx_fits l hfl ev.ak ev.av ev.aS D g ad ax p1 x k v x2 e1
  rw [ex] at b2
  refine z_gh_start (by decide) (Nat.le_of_ble_eq_true rfl) ?_
  intro p e s m args below meth c Q A X hr hK hA ht hQ
  have hE := hK.1
  refine z_lv (lv' := [(0, .ref (ax 0)), (1, .int p1)]) rfl ?_
  refine z_aload_n X 0 dL_fits_0 rfl rfl ?_
  refine z_iload_n X 1 dL_fits_1 rfl rfl ?_
  refine z_exV (rest := []) (q0 := 0) (ci := 11) (ws' := OW g ax ad x) X hE hA k_X11_fits hN ql_L_X11_fits dL_fits_2 b1 b2 rfl rfl OW_0 rfl rfl ⟨Nat.le_of_ble_eq_true rfl, Nat.le_of_ble_eq_true rfl, rfl, rfl, Nat.le_of_ble_eq_true rfl, Nat.le_of_ble_eq_true rfl⟩ (Nat.le_of_ble_eq_true rfl) (fun hx => ?_) (fun hx => ?_)
  · have h := brn_t h hx
    refine z_if_eq X 12 dL_fits_5 (by decide) h (fun _ h => ?_) (fun _ h => ?_)
    · refine z_iconst X (0 : Int32) dL_fits_12 (by decide) ?_
      cases h
      exact z_lret X hQ (Nat.le_of_ble_eq_true rfl) (Nat.le_of_ble_eq_true rfl) hr dL_fits_13
    · refine z_iconst X (1 : Int32) dL_fits_8 (by decide) ?_
      refine z_goto X 13 dL_fits_9 (by decide) ?_
      cases h
      exact z_lret X hQ (Nat.le_of_ble_eq_true rfl) (Nat.le_of_ble_eq_true rfl) hr dL_fits_13
  · have h := brn_f h hx
    by_cases n0 : k = 2
    · have h := brn_t h n0
      cases h
      rw [n0]
      refine z_catch (name := "java/lang/IllegalArgumentException") X [] ⟨0, 13, 14, 14⟩ [⟨0, 13, 18, 49⟩] (ht.trans rfl) (fun _ hz => absurd hz List.not_mem_nil) (by decide) (by decide) qk_L_IllegalArgumentException qca_IllegalArgumentException_IllegalArgumentException (fun q9 => ?_)
      refine z_astore_n X ((2, .ref q9) :: [(0, .ref (ax 0)), (1, .int p1)]) dL_fits_14 rfl (by decide) rfl ?_
      refine z_bipush X (-12 : Int32) dL_fits_15 (by decide) ?_
      exact z_lret X hQ (Nat.le_of_ble_eq_true rfl) (Nat.le_of_ble_eq_true rfl) hr dL_fits_17
    have h := brn_f h n0
    by_cases n1 : k = 4
    · have h := brn_t h n1
      cases h
      rw [n1]
      refine z_catch (name := "java/util/NoSuchElementException") X [⟨0, 13, 14, 14⟩] ⟨0, 13, 18, 49⟩ [] (ht.trans rfl) (List.forall_mem_cons.mpr ⟨⟨by decide, _, qk_L_IllegalArgumentException, hE.2.2.1 ("java/util/NoSuchElementException", "java/lang/IllegalArgumentException") (by decide +kernel)⟩, fun _ hz => absurd hz List.not_mem_nil⟩) (by decide) (by decide) qk_L_NoSuchElementException qca_NoSuchElementException_NoSuchElementException (fun q9 => ?_)
      refine z_astore_n X ((2, .ref q9) :: [(0, .ref (ax 0)), (1, .int p1)]) dL_fits_18 rfl (by decide) rfl ?_
      refine z_bipush X (-13 : Int32) dL_fits_19 (by decide) ?_
      exact z_lret X hQ (Nat.le_of_ble_eq_true rfl) (Nat.le_of_ble_eq_true rfl) hr dL_fits_21
    have h := brn_f h n1
    cases h

theorem dL_fitting_0 : decode cL_fitting 0 = .ok (.aload_n 0, 1) := by decide +kernel
theorem dL_fitting_1 : decode cL_fitting 1 = .ok (.iload_n 1, 1) := by decide +kernel
theorem dL_fitting_2 : decode cL_fitting 2 = .ok (.invokevirtual 82, 3) := by decide +kernel
theorem dL_fitting_5 : decode cL_fitting 5 = .ok (.ireturn, 1) := by decide +kernel
theorem dL_fitting_6 : decode cL_fitting 6 = .ok (.astore_n 2, 1) := by decide +kernel
theorem dL_fitting_7 : decode cL_fitting 7 = .ok (.bipush (-13), 2) := by decide +kernel
theorem dL_fitting_9 : decode cL_fitting 9 = .ok (.ireturn, 1) := by decide +kernel
theorem qw_L_fitting : Cond.codeWith yL_fitting cL_fitting 3 (some .int) [(0, 5, 6, 49)] ∈ lw_all := lw_m (lw_i5 (List.mem_of_getElem? (i := 35) (by decide +kernel))) (by decide +kernel)
theorem k_L_fitting : cardS yL_fitting (Cond.codeWith yL_fitting cL_fitting 3 (some .int) [(0, 5, 6, 49)]) 2 := ⟨qs_L_fitting, qw_L_fitting, qn_L, by decide +kernel, by decide +kernel, by decide +kernel⟩
def F_L_fitting (p1 : Int32) (x : XVal) : Option (Int32) :=
  bnd (G_fitting p1 x) (fun r => brn (r.1 = 0) (some r.2.1) (brn (r.1 = 4) (some (-13 : Int32)) (none)))
set_option maxHeartbeats 4000000 in
set_option maxRecDepth 100000 in
theorem c_L_fitting (l : Launch) (hfl : l.stackTraces = false) (ev : LEv) (D : va_G) (g : Nat → ClassId) (ad : Nat → Nat → Nat) (ax : Nat → Nat) (p1 : Int32) (x : XVal) (o : Int32) (h : F_L_fitting p1 x = some o) : MG l yL_fitting (Cond.codeWith yL_fitting cL_fitting 3 (some .int) [(0, 5, 6, 49)]) { frames := 9, cells := 1, slots := 6, locals := 173 } (KF ev) D g [.ref (ax 0), .int p1] (OW g ax ad x) (some (.int o)) (OW g ax ad x) 1 6 := by
  obtain ⟨⟨k, v, x2⟩, e1, h⟩ := bnd_p h
  obtain ⟨wc, wc', hN, b1, b2, ex⟩ := nx_fitting l hfl ev.ak ev.av ev.aS D g ad ax p1 x k v x2 e1
  rw [ex] at b2
  refine z_gh_start (by decide) (Nat.le_of_ble_eq_true rfl) ?_
  intro p e s m args below meth c Q A X hr hK hA ht hQ
  have hE := hK.1
  refine z_lv (lv' := [(0, .ref (ax 0)), (1, .int p1)]) rfl ?_
  refine z_aload_n X 0 dL_fitting_0 rfl rfl ?_
  refine z_iload_n X 1 dL_fitting_1 rfl rfl ?_
  refine z_exV (rest := []) (q0 := 0) (ci := 11) (ws' := OW g ax ad x) X hE hA k_X11_fitting hN ql_L_X11_fitting dL_fitting_2 b1 b2 rfl rfl OW_0 rfl rfl ⟨Nat.le_of_ble_eq_true rfl, Nat.le_of_ble_eq_true rfl, rfl, rfl, Nat.le_of_ble_eq_true rfl, Nat.le_of_ble_eq_true rfl⟩ (Nat.le_of_ble_eq_true rfl) (fun hx => ?_) (fun hx => ?_)
  · have h := brn_t h hx
    cases h
    exact z_lret X hQ (Nat.le_of_ble_eq_true rfl) (Nat.le_of_ble_eq_true rfl) hr dL_fitting_5
  · have h := brn_f h hx
    by_cases n0 : k = 4
    · have h := brn_t h n0
      cases h
      rw [n0]
      refine z_catch (name := "java/util/NoSuchElementException") X [] ⟨0, 5, 6, 49⟩ [] (ht.trans rfl) (fun _ hz => absurd hz List.not_mem_nil) (by decide) (by decide) qk_L_NoSuchElementException qca_NoSuchElementException_NoSuchElementException (fun q9 => ?_)
      refine z_astore_n X ((2, .ref q9) :: [(0, .ref (ax 0)), (1, .int p1)]) dL_fitting_6 rfl (by decide) rfl ?_
      refine z_bipush X (-13 : Int32) dL_fitting_7 (by decide) ?_
      exact z_lret X hQ (Nat.le_of_ble_eq_true rfl) (Nat.le_of_ble_eq_true rfl) hr dL_fitting_9
    have h := brn_f h n0
    cases h

theorem dL_fix_0 : decode cL_fix 0 = .ok (.aload_n 0, 1) := by decide +kernel
theorem dL_fix_1 : decode cL_fix 1 = .ok (.iload_n 1, 1) := by decide +kernel
theorem dL_fix_2 : decode cL_fix 2 = .ok (.invokevirtual 86, 3) := by decide +kernel
theorem dL_fix_5 : decode cL_fix 5 = .ok (.ireturn, 1) := by decide +kernel
theorem dL_fix_6 : decode cL_fix 6 = .ok (.astore_n 2, 1) := by decide +kernel
theorem dL_fix_7 : decode cL_fix 7 = .ok (.bipush (-13), 2) := by decide +kernel
theorem dL_fix_9 : decode cL_fix 9 = .ok (.ireturn, 1) := by decide +kernel
theorem qw_L_fix : Cond.codeWith yL_fix cL_fix 3 (some .int) [(0, 5, 6, 49)] ∈ lw_all := lw_m (lw_i5 (List.mem_of_getElem? (i := 24) (by decide +kernel))) (by decide +kernel)
theorem k_L_fix : cardS yL_fix (Cond.codeWith yL_fix cL_fix 3 (some .int) [(0, 5, 6, 49)]) 2 := ⟨qs_L_fix, qw_L_fix, qn_L, by decide +kernel, by decide +kernel, by decide +kernel⟩
def F_L_fix (p1 : Int32) (x : XVal) : Option (Int32) :=
  bnd (G_fix p1 x) (fun r => brn (r.1 = 0) (some r.2.1) (brn (r.1 = 4) (some (-13 : Int32)) (none)))
set_option maxHeartbeats 4000000 in
set_option maxRecDepth 100000 in
theorem c_L_fix (l : Launch) (hfl : l.stackTraces = false) (ev : LEv) (D : va_G) (g : Nat → ClassId) (ad : Nat → Nat → Nat) (ax : Nat → Nat) (p1 : Int32) (x : XVal) (o : Int32) (h : F_L_fix p1 x = some o) : MG l yL_fix (Cond.codeWith yL_fix cL_fix 3 (some .int) [(0, 5, 6, 49)]) { frames := 9, cells := 2, slots := 12, locals := 152 } (KF ev) D g [.ref (ax 0), .int p1] (OW g ax ad x) (some (.int o)) (OW g ax ad x) 2 12 := by
  obtain ⟨⟨k, v, x2⟩, e1, h⟩ := bnd_p h
  obtain ⟨wc, wc', hN, b1, b2, ex⟩ := nx_fix l hfl ev.ak ev.av ev.aS D g ad ax p1 x k v x2 e1
  rw [ex] at b2
  refine z_gh_start (by decide) (Nat.le_of_ble_eq_true rfl) ?_
  intro p e s m args below meth c Q A X hr hK hA ht hQ
  have hE := hK.1
  refine z_lv (lv' := [(0, .ref (ax 0)), (1, .int p1)]) rfl ?_
  refine z_aload_n X 0 dL_fix_0 rfl rfl ?_
  refine z_iload_n X 1 dL_fix_1 rfl rfl ?_
  refine z_exV (rest := []) (q0 := 0) (ci := 11) (ws' := OW g ax ad x) X hE hA k_X11_fix hN ql_L_X11_fix dL_fix_2 b1 b2 rfl rfl OW_0 rfl rfl ⟨Nat.le_of_ble_eq_true rfl, Nat.le_of_ble_eq_true rfl, rfl, rfl, Nat.le_of_ble_eq_true rfl, Nat.le_of_ble_eq_true rfl⟩ (Nat.le_of_ble_eq_true rfl) (fun hx => ?_) (fun hx => ?_)
  · have h := brn_t h hx
    cases h
    exact z_lret X hQ (Nat.le_of_ble_eq_true rfl) (Nat.le_of_ble_eq_true rfl) hr dL_fix_5
  · have h := brn_f h hx
    by_cases n0 : k = 4
    · have h := brn_t h n0
      cases h
      rw [n0]
      refine z_catch (name := "java/util/NoSuchElementException") X [] ⟨0, 5, 6, 49⟩ [] (ht.trans rfl) (fun _ hz => absurd hz List.not_mem_nil) (by decide) (by decide) qk_L_NoSuchElementException qca_NoSuchElementException_NoSuchElementException (fun q9 => ?_)
      refine z_astore_n X ((2, .ref q9) :: [(0, .ref (ax 0)), (1, .int p1)]) dL_fix_6 rfl (by decide) rfl ?_
      refine z_bipush X (-13 : Int32) dL_fix_7 (by decide) ?_
      exact z_lret X hQ (Nat.le_of_ble_eq_true rfl) (Nat.le_of_ble_eq_true rfl) hr dL_fix_9
    have h := brn_f h n0
    cases h

theorem dL_apart_0 : decode cL_apart 0 = .ok (.aload_n 0, 1) := by decide +kernel
theorem dL_apart_1 : decode cL_apart 1 = .ok (.iload_n 1, 1) := by decide +kernel
theorem dL_apart_2 : decode cL_apart 2 = .ok (.iload_n 2, 1) := by decide +kernel
theorem dL_apart_3 : decode cL_apart 3 = .ok (.invokevirtual 89, 3) := by decide +kernel
theorem dL_apart_6 : decode cL_apart 6 = .ok (.ireturn, 1) := by decide +kernel
theorem dL_apart_7 : decode cL_apart 7 = .ok (.astore_n 3, 1) := by decide +kernel
theorem dL_apart_8 : decode cL_apart 8 = .ok (.bipush (-12), 2) := by decide +kernel
theorem dL_apart_10 : decode cL_apart 10 = .ok (.ireturn, 1) := by decide +kernel
theorem qw_L_apart : Cond.codeWith yL_apart cL_apart 4 (some .int) [(0, 6, 7, 14)] ∈ lw_all := lw_m (lw_i5 (List.mem_of_getElem? (i := 112) (by decide +kernel))) (by decide +kernel)
theorem k_L_apart : cardS yL_apart (Cond.codeWith yL_apart cL_apart 4 (some .int) [(0, 6, 7, 14)]) 3 := ⟨qs_L_apart, qw_L_apart, qn_L, by decide +kernel, by decide +kernel, by decide +kernel⟩
def F_L_apart (p1 : Int32) (p2 : Int32) (x : XVal) : Option (Int32) :=
  bnd (G_apart p1 p2 x) (fun r => brn (r.1 = 0) (some r.2.1) (brn (r.1 = 2) (some (-12 : Int32)) (none)))
set_option maxHeartbeats 4000000 in
set_option maxRecDepth 100000 in
theorem c_L_apart (l : Launch) (hfl : l.stackTraces = false) (ev : LEv) (D : va_G) (g : Nat → ClassId) (ad : Nat → Nat → Nat) (ax : Nat → Nat) (p1 : Int32) (p2 : Int32) (x : XVal) (o : Int32) (h : F_L_apart p1 p2 x = some o) : MG l yL_apart (Cond.codeWith yL_apart cL_apart 4 (some .int) [(0, 6, 7, 14)]) { frames := 9, cells := 1, slots := 6, locals := 152 } (KF ev) D g [.ref (ax 0), .int p1, .int p2] (OW g ax ad x) (some (.int o)) (OW g ax ad x) 1 6 := by
  obtain ⟨⟨k, v, x2⟩, e1, h⟩ := bnd_p h
  obtain ⟨wc, wc', hN, b1, b2, ex⟩ := nx_apart l hfl ev.ak ev.av ev.aS D g ad ax p1 p2 x k v x2 e1
  rw [ex] at b2
  refine z_gh_start (by decide) (Nat.le_of_ble_eq_true rfl) ?_
  intro p e s m args below meth c Q A X hr hK hA ht hQ
  have hE := hK.1
  refine z_lv (lv' := [(0, .ref (ax 0)), (1, .int p1), (2, .int p2)]) rfl ?_
  refine z_aload_n X 0 dL_apart_0 rfl rfl ?_
  refine z_iload_n X 1 dL_apart_1 rfl rfl ?_
  refine z_iload_n X 2 dL_apart_2 rfl rfl ?_
  refine z_exV (rest := []) (q0 := 0) (ci := 11) (ws' := OW g ax ad x) X hE hA k_X11_apart hN ql_L_X11_apart dL_apart_3 b1 b2 rfl rfl OW_0 rfl rfl ⟨Nat.le_of_ble_eq_true rfl, Nat.le_of_ble_eq_true rfl, rfl, rfl, Nat.le_of_ble_eq_true rfl, Nat.le_of_ble_eq_true rfl⟩ (Nat.le_of_ble_eq_true rfl) (fun hx => ?_) (fun hx => ?_)
  · have h := brn_t h hx
    cases h
    exact z_lret X hQ (Nat.le_of_ble_eq_true rfl) (Nat.le_of_ble_eq_true rfl) hr dL_apart_6
  · have h := brn_f h hx
    by_cases n0 : k = 2
    · have h := brn_t h n0
      cases h
      rw [n0]
      refine z_catch (name := "java/lang/IllegalArgumentException") X [] ⟨0, 6, 7, 14⟩ [] (ht.trans rfl) (fun _ hz => absurd hz List.not_mem_nil) (by decide) (by decide) qk_L_IllegalArgumentException qca_IllegalArgumentException_IllegalArgumentException (fun q9 => ?_)
      refine z_astore_n X ((3, .ref q9) :: [(0, .ref (ax 0)), (1, .int p1), (2, .int p2)]) dL_apart_7 rfl (by decide) rfl ?_
      refine z_bipush X (-12 : Int32) dL_apart_8 (by decide) ?_
      exact z_lret X hQ (Nat.le_of_ble_eq_true rfl) (Nat.le_of_ble_eq_true rfl) hr dL_apart_10
    have h := brn_f h n0
    cases h

theorem dL_way_0 : decode cL_way 0 = .ok (.aload_n 0, 1) := by decide +kernel
theorem dL_way_1 : decode cL_way 1 = .ok (.iload_n 1, 1) := by decide +kernel
theorem dL_way_2 : decode cL_way 2 = .ok (.iload_n 2, 1) := by decide +kernel
theorem dL_way_3 : decode cL_way 3 = .ok (.iload_n 3, 1) := by decide +kernel
theorem dL_way_4 : decode cL_way 4 = .ok (.invokevirtual 92, 3) := by decide +kernel
theorem dL_way_7 : decode cL_way 7 = .ok (.ireturn, 1) := by decide +kernel
theorem dL_way_8 : decode cL_way 8 = .ok (.astore 4, 2) := by decide +kernel
theorem dL_way_10 : decode cL_way 10 = .ok (.bipush (-12), 2) := by decide +kernel
theorem dL_way_12 : decode cL_way 12 = .ok (.ireturn, 1) := by decide +kernel
theorem dL_way_13 : decode cL_way 13 = .ok (.astore 4, 2) := by decide +kernel
theorem dL_way_15 : decode cL_way 15 = .ok (.bipush (-13), 2) := by decide +kernel
theorem dL_way_17 : decode cL_way 17 = .ok (.ireturn, 1) := by decide +kernel
theorem qw_L_way : Cond.codeWith yL_way cL_way 5 (some .int) [(0, 7, 8, 14), (0, 7, 13, 49)] ∈ lw_all := lw_m (lw_i5 (List.mem_of_getElem? (i := 120) (by decide +kernel))) (by decide +kernel)
theorem k_L_way : cardS yL_way (Cond.codeWith yL_way cL_way 5 (some .int) [(0, 7, 8, 14), (0, 7, 13, 49)]) 4 := ⟨qs_L_way, qw_L_way, qn_L, by decide +kernel, by decide +kernel, by decide +kernel⟩
def F_L_way (p1 : Int32) (p2 : Int32) (p3 : Int32) (x : XVal) : Option (Int32 × XVal) :=
  bnd (G_way p1 p2 p3 x) (fun r => brn (r.1 = 0) (some (r.2.1, r.2.2)) (brn (r.1 = 2) (some ((-12 : Int32), r.2.2)) (brn (r.1 = 4) (some ((-13 : Int32), r.2.2)) (none))))
set_option maxHeartbeats 4000000 in
set_option maxRecDepth 100000 in
theorem c_L_way (l : Launch) (hfl : l.stackTraces = false) (ev : LEv) (D : va_G) (g : Nat → ClassId) (ad : Nat → Nat → Nat) (ax : Nat → Nat) (p1 : Int32) (p2 : Int32) (p3 : Int32) (x : XVal) (o : Int32 × XVal) (h : F_L_way p1 p2 p3 x = some o) : MG l yL_way (Cond.codeWith yL_way cL_way 5 (some .int) [(0, 7, 8, 14), (0, 7, 13, 49)]) { frames := 9, cells := 2, slots := 12, locals := 164 } (KF ev) D g [.ref (ax 0), .int p1, .int p2, .int p3] (OW g ax ad x) (some (.int o.1)) (OW g ax ad o.2) 2 12 := by
  obtain ⟨⟨k, v, x2⟩, e1, h⟩ := bnd_p h
  obtain ⟨wc, wc', hN, b1, b2⟩ := nx_way l hfl ev.ak ev.av ev.aS D g ad ax p1 p2 p3 x k v x2 e1
  refine z_gh_start (by decide) (Nat.le_of_ble_eq_true rfl) ?_
  intro p e s m args below meth c Q A X hr hK hA ht hQ
  have hE := hK.1
  refine z_lv (lv' := [(0, .ref (ax 0)), (1, .int p1), (2, .int p2), (3, .int p3)]) rfl ?_
  refine z_aload_n X 0 dL_way_0 rfl rfl ?_
  refine z_iload_n X 1 dL_way_1 rfl rfl ?_
  refine z_iload_n X 2 dL_way_2 rfl rfl ?_
  refine z_iload_n X 3 dL_way_3 rfl rfl ?_
  refine z_exV (rest := []) (q0 := 0) (ci := 11) (ws' := OW g ax ad x2) X hE hA k_X11_way hN ql_L_X11_way dL_way_4 b1 b2 rfl rfl OW_0 rfl rfl ⟨Nat.le_of_ble_eq_true rfl, Nat.le_of_ble_eq_true rfl, rfl, rfl, Nat.le_of_ble_eq_true rfl, Nat.le_of_ble_eq_true rfl⟩ (Nat.le_of_ble_eq_true rfl) (fun hx => ?_) (fun hx => ?_)
  · have h := brn_t h hx
    cases h
    exact z_lret X hQ (Nat.le_of_ble_eq_true rfl) (Nat.le_of_ble_eq_true rfl) hr dL_way_7
  · have h := brn_f h hx
    by_cases n0 : k = 2
    · have h := brn_t h n0
      cases h
      rw [n0]
      refine z_catch (name := "java/lang/IllegalArgumentException") X [] ⟨0, 7, 8, 14⟩ [⟨0, 7, 13, 49⟩] (ht.trans rfl) (fun _ hz => absurd hz List.not_mem_nil) (by decide) (by decide) qk_L_IllegalArgumentException qca_IllegalArgumentException_IllegalArgumentException (fun q9 => ?_)
      refine z_astore X ((4, .ref q9) :: [(0, .ref (ax 0)), (1, .int p1), (2, .int p2), (3, .int p3)]) dL_way_8 (by decide) rfl ?_
      refine z_bipush X (-12 : Int32) dL_way_10 (by decide) ?_
      exact z_lret X hQ (Nat.le_of_ble_eq_true rfl) (Nat.le_of_ble_eq_true rfl) hr dL_way_12
    have h := brn_f h n0
    by_cases n1 : k = 4
    · have h := brn_t h n1
      cases h
      rw [n1]
      refine z_catch (name := "java/util/NoSuchElementException") X [⟨0, 7, 8, 14⟩] ⟨0, 7, 13, 49⟩ [] (ht.trans rfl) (List.forall_mem_cons.mpr ⟨⟨by decide, _, qk_L_IllegalArgumentException, hE.2.2.1 ("java/util/NoSuchElementException", "java/lang/IllegalArgumentException") (by decide +kernel)⟩, fun _ hz => absurd hz List.not_mem_nil⟩) (by decide) (by decide) qk_L_NoSuchElementException qca_NoSuchElementException_NoSuchElementException (fun q9 => ?_)
      refine z_astore X ((4, .ref q9) :: [(0, .ref (ax 0)), (1, .int p1), (2, .int p2), (3, .int p3)]) dL_way_13 (by decide) rfl ?_
      refine z_bipush X (-13 : Int32) dL_way_15 (by decide) ?_
      exact z_lret X hQ (Nat.le_of_ble_eq_true rfl) (Nat.le_of_ble_eq_true rfl) hr dL_way_17
    have h := brn_f h n1
    cases h

theorem dL_round_0 : decode cL_round 0 = .ok (.aload_n 0, 1) := by decide +kernel
theorem dL_round_1 : decode cL_round 1 = .ok (.iload_n 1, 1) := by decide +kernel
theorem dL_round_2 : decode cL_round 2 = .ok (.invokevirtual 96, 3) := by decide +kernel
theorem dL_round_5 : decode cL_round 5 = .ok (.ireturn, 1) := by decide +kernel
theorem dL_round_6 : decode cL_round 6 = .ok (.astore_n 2, 1) := by decide +kernel
theorem dL_round_7 : decode cL_round 7 = .ok (.bipush (-13), 2) := by decide +kernel
theorem dL_round_9 : decode cL_round 9 = .ok (.ireturn, 1) := by decide +kernel
theorem qw_L_round : Cond.codeWith yL_round cL_round 3 (some .int) [(0, 5, 6, 49)] ∈ lw_all := lw_m (lw_i5 (List.mem_of_getElem? (i := 135) (by decide +kernel))) (by decide +kernel)
theorem k_L_round : cardS yL_round (Cond.codeWith yL_round cL_round 3 (some .int) [(0, 5, 6, 49)]) 2 := ⟨qs_L_round, qw_L_round, qn_L, by decide +kernel, by decide +kernel, by decide +kernel⟩
def F_L_round (p1 : Int32) (x : XVal) : Option (Int32 × XVal) :=
  bnd (G_round p1 x) (fun r => brn (r.1 = 0) (some (r.2.1, r.2.2)) (brn (r.1 = 4) (some ((-13 : Int32), r.2.2)) (none)))
set_option maxHeartbeats 4000000 in
set_option maxRecDepth 100000 in
theorem c_L_round (l : Launch) (hfl : l.stackTraces = false) (ev : LEv) (D : va_G) (g : Nat → ClassId) (ad : Nat → Nat → Nat) (ax : Nat → Nat) (p1 : Int32) (x : XVal) (o : Int32 × XVal) (h : F_L_round p1 x = some o) : MG l yL_round (Cond.codeWith yL_round cL_round 3 (some .int) [(0, 5, 6, 49)]) { frames := 9, cells := 1, slots := 6, locals := 158 } (KF ev) D g [.ref (ax 0), .int p1] (OW g ax ad x) (some (.int o.1)) (OW g ax ad o.2) 1 6 := by
  obtain ⟨⟨k, v, x2⟩, e1, h⟩ := bnd_p h
  obtain ⟨wc, wc', hN, b1, b2⟩ := nx_round l hfl ev.ak ev.av ev.aS D g ad ax p1 x k v x2 e1
  refine z_gh_start (by decide) (Nat.le_of_ble_eq_true rfl) ?_
  intro p e s m args below meth c Q A X hr hK hA ht hQ
  have hE := hK.1
  refine z_lv (lv' := [(0, .ref (ax 0)), (1, .int p1)]) rfl ?_
  refine z_aload_n X 0 dL_round_0 rfl rfl ?_
  refine z_iload_n X 1 dL_round_1 rfl rfl ?_
  refine z_exV (rest := []) (q0 := 0) (ci := 11) (ws' := OW g ax ad x2) X hE hA k_X11_round hN ql_L_X11_round dL_round_2 b1 b2 rfl rfl OW_0 rfl rfl ⟨Nat.le_of_ble_eq_true rfl, Nat.le_of_ble_eq_true rfl, rfl, rfl, Nat.le_of_ble_eq_true rfl, Nat.le_of_ble_eq_true rfl⟩ (Nat.le_of_ble_eq_true rfl) (fun hx => ?_) (fun hx => ?_)
  · have h := brn_t h hx
    cases h
    exact z_lret X hQ (Nat.le_of_ble_eq_true rfl) (Nat.le_of_ble_eq_true rfl) hr dL_round_5
  · have h := brn_f h hx
    by_cases n0 : k = 4
    · have h := brn_t h n0
      cases h
      rw [n0]
      refine z_catch (name := "java/util/NoSuchElementException") X [] ⟨0, 5, 6, 49⟩ [] (ht.trans rfl) (fun _ hz => absurd hz List.not_mem_nil) (by decide) (by decide) qk_L_NoSuchElementException qca_NoSuchElementException_NoSuchElementException (fun q9 => ?_)
      refine z_astore_n X ((2, .ref q9) :: [(0, .ref (ax 0)), (1, .int p1)]) dL_round_6 rfl (by decide) rfl ?_
      refine z_bipush X (-13 : Int32) dL_round_7 (by decide) ?_
      exact z_lret X hQ (Nat.le_of_ble_eq_true rfl) (Nat.le_of_ble_eq_true rfl) hr dL_round_9
    have h := brn_f h n0
    cases h
