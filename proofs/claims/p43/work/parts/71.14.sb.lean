theorem dJ3_checkFromToIndex_8c36e_0 : decode cJ3_checkFromToIndex_8c36e 0 = .ok (.iload_n 0, 1) := by decide +kernel
theorem dJ3_checkFromToIndex_8c36e_1 : decode cJ3_checkFromToIndex_8c36e 1 = .ok (.ifCond .lt 13, 3) := by decide +kernel
theorem dJ3_checkFromToIndex_8c36e_4 : decode cJ3_checkFromToIndex_8c36e 4 = .ok (.iload_n 0, 1) := by decide +kernel
theorem dJ3_checkFromToIndex_8c36e_5 : decode cJ3_checkFromToIndex_8c36e 5 = .ok (.iload_n 1, 1) := by decide +kernel
theorem dJ3_checkFromToIndex_8c36e_6 : decode cJ3_checkFromToIndex_8c36e 6 = .ok (.if_icmp .gt 8, 3) := by decide +kernel
theorem dJ3_checkFromToIndex_8c36e_9 : decode cJ3_checkFromToIndex_8c36e 9 = .ok (.iload_n 1, 1) := by decide +kernel
theorem dJ3_checkFromToIndex_8c36e_10 : decode cJ3_checkFromToIndex_8c36e 10 = .ok (.iload_n 2, 1) := by decide +kernel
theorem dJ3_checkFromToIndex_8c36e_11 : decode cJ3_checkFromToIndex_8c36e 11 = .ok (.if_icmp .le 11, 3) := by decide +kernel
theorem dJ3_checkFromToIndex_8c36e_14 : decode cJ3_checkFromToIndex_8c36e 14 = .ok (.aload_n 3, 1) := by decide +kernel
theorem dJ3_checkFromToIndex_8c36e_15 : decode cJ3_checkFromToIndex_8c36e 15 = .ok (.iload_n 0, 1) := by decide +kernel
theorem dJ3_checkFromToIndex_8c36e_16 : decode cJ3_checkFromToIndex_8c36e 16 = .ok (.iload_n 1, 1) := by decide +kernel
theorem dJ3_checkFromToIndex_8c36e_17 : decode cJ3_checkFromToIndex_8c36e 17 = .ok (.iload_n 2, 1) := by decide +kernel
theorem dJ3_checkFromToIndex_8c36e_18 : decode cJ3_checkFromToIndex_8c36e 18 = .ok (.invokestatic 99, 3) := by decide +kernel
theorem dJ3_checkFromToIndex_8c36e_21 : decode cJ3_checkFromToIndex_8c36e 21 = .ok (.athrow, 1) := by decide +kernel
theorem dJ3_checkFromToIndex_8c36e_22 : decode cJ3_checkFromToIndex_8c36e 22 = .ok (.iload_n 0, 1) := by decide +kernel
theorem dJ3_checkFromToIndex_8c36e_23 : decode cJ3_checkFromToIndex_8c36e 23 = .ok (.ireturn, 1) := by decide +kernel
theorem k_J3_checkFromToIndex_8c36e : cardS yJ3_checkFromToIndex_8c36e (Cond.code yJ3_checkFromToIndex_8c36e cJ3_checkFromToIndex_8c36e 4 (some .int)) 4 := ⟨qs_J3_checkFromToIndex_8c36e, qc_J3_checkFromToIndex_8c36e, qn_J3, by decide +kernel, by decide +kernel, by decide +kernel⟩

theorem dJ0_checkBoundsBeginEnd_23922_0 : decode cJ0_checkBoundsBeginEnd_23922 0 = .ok (.iload_n 0, 1) := by decide +kernel
theorem dJ0_checkBoundsBeginEnd_23922_1 : decode cJ0_checkBoundsBeginEnd_23922 1 = .ok (.iload_n 1, 1) := by decide +kernel
theorem dJ0_checkBoundsBeginEnd_23922_2 : decode cJ0_checkBoundsBeginEnd_23922 2 = .ok (.iload_n 2, 1) := by decide +kernel
theorem dJ0_checkBoundsBeginEnd_23922_3 : decode cJ0_checkBoundsBeginEnd_23922 3 = .ok (.getstatic 1053, 3) := by decide +kernel
theorem dJ0_checkBoundsBeginEnd_23922_6 : decode cJ0_checkBoundsBeginEnd_23922 6 = .ok (.invokestatic 1062, 3) := by decide +kernel
theorem dJ0_checkBoundsBeginEnd_23922_9 : decode cJ0_checkBoundsBeginEnd_23922 9 = .ok (.pop, 1) := by decide +kernel
theorem dJ0_checkBoundsBeginEnd_23922_10 : decode cJ0_checkBoundsBeginEnd_23922 10 = .ok (.return_, 1) := by decide +kernel
theorem k_J0_checkBoundsBeginEnd_23922 : cardS yJ0_checkBoundsBeginEnd_23922 (Cond.code yJ0_checkBoundsBeginEnd_23922 cJ0_checkBoundsBeginEnd_23922 3 none) 3 := ⟨qs_J0_checkBoundsBeginEnd_23922, qc_J0_checkBoundsBeginEnd_23922, qn_J0, by decide +kernel, by decide +kernel, by decide +kernel⟩

/-! ===== a text's end ===== -/
abbrev TxR : Type := Nat × Nat × Nat × (Nat → Int32) × va_W
def fE : Nat → Int32 := fun j => (([[]] : List (List Int32)).getD 0 []).getD j 0
def SubR (ev : LEv) (g : Nat → ClassId) (q v n : Nat) (f : Nat → Int32) (l : List Int32) (a : TxR) : Prop := TQ a.2.2.1 a.2.2.2.1 l ∧ (a = (q, v, n, f, []) ∨ a = (ev.qE, ev.vE, 0, fE, []) ∨ a.2.2.2.2 = STW g a.1 a.2.1 a.2.2.1 a.2.2.2.1)
theorem TQ.drop {n k c : Nat} {f : Nat → Int32} {l : List Int32} (h : TQ n f l) (hk : k + c = n) : TQ c (va_cpy f (fun _ => 0) k 0 c) (l.drop k) := by
  refine ⟨by rw [List.length_drop, h.1]; omega, fun i hi => ?_⟩
  have e : va_cpy f (fun _ => 0) k 0 c i = f (k + i) := by
    unfold va_cpy
    rw [if_pos (by omega)]
    rfl
  have eg : (l.drop k).getD i 0 = l.getD (k + i) 0 := by
    rw [List.getD_eq_getElem?_getD, List.getD_eq_getElem?_getD, List.getElem?_drop]
  rw [e, eg]
  exact h.2 (k + i) (by omega)
theorem TQ.end {n : Nat} {f : Nat → Int32} {l : List Int32} (h : TQ n f l) : TQ 0 fE (l.drop n) := by
  rw [List.drop_eq_nil_of_le (by rw [h.1]; exact Nat.le_refl _)]
  exact TQ.nil _
/-- the law's literals -/
theorem lit_TX {ev : LEv} {A : Nat → Prop} {s : State} {H : Heap} (hK : KF ev A s H) {i : Nat} (hi : i < 9) : TX (ev.tk i) (ev.tv i) (tLen.getD i 0) (fun j => (tByt.getD i []).getD j 0) A s H := hK.2.2.2.1.1.1 i hi
theorem emp_TX {ev : LEv} {A : Nat → Prop} {s : State} {H : Heap} (hK : KF ev A s H) : TX ev.qE ev.vE 0 fE A s H := hK.2.2.2.2.2.1.1 0 (by decide)
theorem lit_TQ {i : Nat} (hi : i < 9) : TQ (tLen.getD i 0) (fun j => (tByt.getD i []).getD j 0) (tByt.getD i []) := by
  have h1 : ∀ i, i < 9 → (tByt.getD i []).length = tLen.getD i 0 := by decide +kernel
  have h2 : ∀ i, i < 9 → ∀ j, j < 11 → fits .byte (.int ((tByt.getD i []).getD j 0)) = true := by decide +kernel
  have h3 : ∀ i, i < 9 → tLen.getD i 0 ≤ 11 := by decide +kernel
  exact ⟨h1 i hi, fun j hj => ⟨rfl, h2 i hi j (by have := h3 i hi; omega)⟩⟩
theorem c_J3_fromTo (l : Launch) (ak av : Nat → Nat) (aS : Nat) (D : va_G) (g : Nat → ClassId) (p0 p1 p2 : Int32) (w : Value) (hw : w = .null ∨ ∃ t, w = .ref t) (h0 : ¬ p0 < 0) (h1 : ¬ p1 < p0) (h2 : p1 ≤ p2) : ME l yJ3_checkFromToIndex_8c36e (Cond.code yJ3_checkFromToIndex_8c36e cJ3_checkFromToIndex_8c36e 4 (some .int)) { frames := 0, cells := 0, slots := 0, locals := 0 } ak av aS D g [.int p0, .int p1, .int p2, w] (some (.int p0)) := by
  rcases hw with rfl | ⟨t, rfl⟩
  all_goals
    refine z_ed_start (by decide) (Nat.le_of_ble_eq_true rfl) ?_
    intro p e s m args below meth c Q X hr hE hQ
    refine z_lv (lv' := [(0, .int p0), (1, .int p1), (2, .int p2), (3, _)]) rfl ?_
    refine z_iload_n X 0 dJ3_checkFromToIndex_8c36e_0 rfl rfl ?_
    refine z_if_lt (F1 := some ()) (F2 := some ()) (o := ()) X 14 dJ3_checkFromToIndex_8c36e_1 (by decide) (by unfold brn; split <;> rfl) (fun q _ => absurd q h0) (fun _ _ => ?_)
    refine z_iload_n X 0 dJ3_checkFromToIndex_8c36e_4 rfl rfl ?_
    refine z_iload_n X 1 dJ3_checkFromToIndex_8c36e_5 rfl rfl ?_
    refine z_icmp_gt (F1 := some ()) (F2 := some ()) (o := ()) X 14 dJ3_checkFromToIndex_8c36e_6 (by decide) (by unfold brn; split <;> rfl) (fun q _ => absurd q h1) (fun _ _ => ?_)
    refine z_iload_n X 1 dJ3_checkFromToIndex_8c36e_9 rfl rfl ?_
    refine z_iload_n X 2 dJ3_checkFromToIndex_8c36e_10 rfl rfl ?_
    refine z_icmp_le (F1 := some ()) (F2 := some ()) (o := ()) X 22 dJ3_checkFromToIndex_8c36e_11 (by decide) (by unfold brn; split <;> rfl) (fun _ _ => ?_) (fun q _ => absurd h2 q)
    refine z_iload_n X 0 dJ3_checkFromToIndex_8c36e_22 rfl rfl ?_
    exact z_iretR X hQ hr dJ3_checkFromToIndex_8c36e_23 rfl
theorem c_J0_bounds (l : Launch) (ak av : Nat → Nat) (aS : Nat) (D : va_G) (g : Nat → ClassId) (p0 p1 p2 : Int32) (h0 : ¬ p0 < 0) (h1 : ¬ p1 < p0) (h2 : p1 ≤ p2) : ME l yJ0_checkBoundsBeginEnd_23922 (Cond.code yJ0_checkBoundsBeginEnd_23922 cJ0_checkBoundsBeginEnd_23922 3 none) { frames := 1, cells := 0, slots := 0, locals := 23 } ak av aS D g [.int p0, .int p1, .int p2] none := by
  refine z_ed_start (by decide) (Nat.le_of_ble_eq_true rfl) ?_
  intro p e s m args below meth c Q X hr hE hQ
  refine z_lv (lv' := [(0, .int p0), (1, .int p1), (2, .int p2)]) rfl ?_
  refine z_iload_n X 0 dJ0_checkBoundsBeginEnd_23922_0 rfl rfl ?_
  refine z_iload_n X 1 dJ0_checkBoundsBeginEnd_23922_1 rfl rfl ?_
  refine z_iload_n X 2 dJ0_checkBoundsBeginEnd_23922_2 rfl rfl ?_
  rcases hE.2.2.2 with hZ | ⟨t, hZ⟩
  all_goals
    refine z_gets X IR_S hZ qf_J0_J3_SIOOBE_FORMATTER dJ0_checkBoundsBeginEnd_23922_3 ?_
    refine z_edS (rest := []) X IR_S hE k_J3_checkFromToIndex_8c36e (c_J3_fromTo l ak av aS D g p0 p1 p2 _ (by first | exact Or.inl rfl | exact Or.inr ⟨_, rfl⟩) h0 h1 h2) ql_J0_J3_checkFromToIndex_8c36e dJ0_checkBoundsBeginEnd_23922_6 rfl rfl ⟨Nat.le_of_ble_eq_true rfl, Nat.le_of_ble_eq_true rfl, rfl, rfl, Nat.le_of_ble_eq_true rfl, Nat.le_of_ble_eq_true rfl⟩ (Nat.le_of_ble_eq_true rfl) ?_
    refine z_pop X dJ0_checkBoundsBeginEnd_23922_9 rfl ?_
    exact z_vretR X hQ hr dJ0_checkBoundsBeginEnd_23922_10

theorem dJ0_init_031fb_0 : decode cJ0_init_031fb 0 = .ok (.aload_n 0, 1) := by decide +kernel
theorem dJ0_init_031fb_1 : decode cJ0_init_031fb 1 = .ok (.invokespecial 1, 3) := by decide +kernel
theorem dJ0_init_031fb_4 : decode cJ0_init_031fb 4 = .ok (.aload_n 0, 1) := by decide +kernel
theorem dJ0_init_031fb_5 : decode cJ0_init_031fb 5 = .ok (.aload_n 1, 1) := by decide +kernel
theorem dJ0_init_031fb_6 : decode cJ0_init_031fb 6 = .ok (.putfield 9, 3) := by decide +kernel
theorem dJ0_init_031fb_9 : decode cJ0_init_031fb 9 = .ok (.aload_n 0, 1) := by decide +kernel
theorem dJ0_init_031fb_10 : decode cJ0_init_031fb 10 = .ok (.iload_n 2, 1) := by decide +kernel
theorem dJ0_init_031fb_11 : decode cJ0_init_031fb 11 = .ok (.putfield 15, 3) := by decide +kernel
theorem dJ0_init_031fb_14 : decode cJ0_init_031fb 14 = .ok (.return_, 1) := by decide +kernel
set_option maxHeartbeats 4000000 in
set_option maxRecDepth 100000 in
theorem c_sb_raw (l : Launch) (hfl : l.stackTraces = false) (ev : LEv) (D : va_G) (g : Nat → ClassId) (rs vs ns : Nat) (fs : Nat → Int32) : MO l yJ0_init_031fb (Cond.code yJ0_init_031fb cJ0_init_031fb 3 none) { frames := 1, cells := 0, slots := 0, locals := 40 } (KF ev) D g [.ref rs, .ref vs, .int (0 : Int32)] [(rs, .inr (0, [.null, .int 0, .int 0, .int 0])), (vs, .inl (g 5, ns, .inl fs))] (fun _ : Unit => True) (fun _ => none) (fun _ => STW g rs vs ns fs) 0 0 := by
  refine z_o_start (by decide) (Nat.le_of_ble_eq_true rfl) ?_
  intro p e s m args below meth c Q A X hr hin hK hA hQ
  refine z_lv (lv' := [(0, .ref rs), (1, .ref vs), (2, .int (0 : Int32))]) rfl ?_
  refine z_aload_n X 0 dJ0_init_031fb_0 rfl rfl ?_
  refine z_objInit X ql_J0_Object__init____V dJ0_init_031fb_1 (Nat.le_of_ble_eq_true rfl) (Nat.le_of_ble_eq_true rfl) ?_
  refine z_aload_n X 0 dJ0_init_031fb_4 rfl rfl ?_
  refine z_aload_n X 1 dJ0_init_031fb_5 rfl rfl ?_
  refine z_putF (q0 := 0) (k := 0) (ci := 0) (ws' := [(rs, .inr (0, [.ref vs, .int 0, .int 0, .int 0])), (vs, .inl (g 5, ns, .inl fs))]) X hin iw_J0 tyJ0_ok nmJ0 rfl qf_J0_J0_value (by decide) rfl rfl rfl dJ0_init_031fb_6 rfl rfl rfl (Nat.le_of_ble_eq_true rfl) rfl ?_
  refine z_aload_n X 0 dJ0_init_031fb_9 rfl rfl ?_
  refine z_iload_n X 2 dJ0_init_031fb_10 rfl rfl ?_
  refine z_putF (q0 := 0) (k := 1) (ci := 0) (ws' := [(rs, .inr (0, [.ref vs, .int (0 : Int32), .int 0, .int 0])), (vs, .inl (g 5, ns, .inl fs))]) X hin iw_J0 tyJ0_ok nmJ0 rfl qf_J0_J0_coder (by decide) rfl rfl rfl dJ0_init_031fb_11 rfl rfl rfl (Nat.le_of_ble_eq_true rfl) rfl ?_
  exact z_ovret X hQ (Nat.le_of_ble_eq_true rfl) (Nat.le_of_ble_eq_true rfl) hr dJ0_init_031fb_14 () trivial rfl (List.Perm.refl _)

set_option maxHeartbeats 4000000 in
set_option maxRecDepth 100000 in
theorem c_st_rngB (l : Launch) (hfl : l.stackTraces = false) (ev : LEv) (D : va_G) (g : Nat → ClassId) (q_tx v_tx n_tx : Nat) (f_tx : Nat → Int32) (ab cb : Nat) (tm : List Int32) (htx : TQ n_tx f_tx tm) (h0 : 0 < ab) (hc : 0 < cb) (h1 : ab + cb = n_tx) (h2 : n_tx ≤ 34) : MO l yJ7_copyOfRangeByte_39247 (Cond.code yJ7_copyOfRangeByte_39247 cJ7_copyOfRangeByte_39247 5 (some (.array .byte))) { frames := 1, cells := 1, slots := 34, locals := 40 } (KT ev q_tx v_tx n_tx f_tx) D g [.ref v_tx, .int (nI ab), .int (nI (ab + cb))] [] (fun _ : Nat => True) (fun a => some (.ref a)) (fun a => [(a, .inl (g 5, cb, .inl (va_cpy f_tx (fun _ => 0) ab 0 cb)))]) 1 34 := by
  refine z_o_start (by decide) (Nat.le_of_ble_eq_true rfl) ?_
  intro p e s m args below meth c Q A X hr hin hK hA hQ
  have hKT := hK
  have hK := hKT.1
  refine z_lv (lv' := [(0, .ref v_tx), (1, .int (nI ab)), (2, .int (nI (ab + cb)))]) rfl ?_
  refine z_iload_n X 1 dJ7_copyOfRangeByte_39247_0 rfl rfl ?_
  refine z_iload_n X 2 dJ7_copyOfRangeByte_39247_1 rfl rfl ?_
  refine z_oS (rest := []) (wr := []) X (KF_ok ev) (kc_of (KT_ok ev q_tx v_tx n_tx f_tx) (fun _ _ _ q => q.1) hKT hA (pm_bkc (wr := []) (List.Perm.refl _))) hA k_J7_checkLength_df160 (c_sb_chk l hfl ev D g ab (ab + cb) (by omega) (by omega)) ql_J7_J7_checkLength_df160 dJ7_copyOfRangeByte_39247_2 (List.Perm.refl _) rfl rfl ⟨Nat.le_of_ble_eq_true rfl, Nat.le_of_ble_eq_true rfl, rfl, rfl, Nat.le_of_ble_eq_true rfl, Nat.le_of_ble_eq_true rfl⟩ (Nat.le_of_ble_eq_true rfl) (fun a ha => ?_)
  refine z_perm (ws' := []) (List.Perm.refl _) ?_
  refine z_iload_n X 2 dJ7_copyOfRangeByte_39247_5 rfl rfl ?_
  refine z_iload_n X 1 dJ7_copyOfRangeByte_39247_6 rfl rfl ?_
  refine z_isub X dJ7_copyOfRangeByte_39247_7 ?_
  rw [show (((nI (ab + cb)) - (nI ab)) : Int32) = nI cb from (by rw [pk_sub (by omega)]; congr 1; omega)]
  refine z_istore_n X [(3, .int (nI cb)), (0, .ref v_tx), (1, .int (nI ab)), (2, .int (nI (ab + cb)))] dJ7_copyOfRangeByte_39247_8 rfl (by decide) rfl ?_
  refine z_iload_n X 0 dJ7_copyOfRangeByte_39247_9 rfl rfl ?_
  refine z_newa (atype := .byte) (a0 := (cb, .inl (fun _ => 0))) (ty := .byte) 5 X hA qa_byte rfl rfl (fun _ _ h => h) (fun _ => rfl) (nI_pos (by omega)) (nI_clamp (by omega)) (by show cb * 1 ≤ _; omega) (Nat.le_of_ble_eq_true rfl) (by show 0 + 0 + cb ≤ 34; omega) dJ7_copyOfRangeByte_39247_10 (fun a5 => ?_)
  refine z_perm (ws' := [(a5, .inl (g 5, cb, .inl (fun _ => 0)))]) List.perm_append_comm ?_
  refine z_astore X [(4, .ref a5), (3, .int (nI cb)), (0, .ref v_tx), (1, .int (nI ab)), (2, .int (nI (ab + cb)))] dJ7_copyOfRangeByte_39247_12 (by decide) rfl ?_
  refine z_aload_n X 2 dJ7_copyOfRangeByte_39247_14 rfl rfl ?_
  refine z_iload_n X 3 dJ7_copyOfRangeByte_39247_15 rfl rfl ?_
  refine z_aload X 0 dJ7_copyOfRangeByte_39247_16 rfl ?_
  refine z_iconst X (0 : Int32) dJ7_copyOfRangeByte_39247_18 (by decide) ?_
  refine z_aload_n X 2 dJ7_copyOfRangeByte_39247_19 rfl rfl ?_
  refine z_tlen (v := nI n_tx) X IW_S hKT.2.2.2.2 rfl dJ7_copyOfRangeByte_39247_20 ?_
  refine z_iload_n X 3 dJ7_copyOfRangeByte_39247_21 rfl rfl ?_
  refine z_isub X dJ7_copyOfRangeByte_39247_22 ?_
  rw [show (((nI n_tx) - (nI ab)) : Int32) = nI cb from (by rw [pk_sub (by omega)]; congr 1; omega)]
  refine z_iload_n X 1 dJ7_copyOfRangeByte_39247_23 rfl rfl ?_
  refine z_mmin X ql_J7_mmin dJ7_copyOfRangeByte_39247_24 (Nat.le_of_ble_eq_true rfl) (Nat.le_of_ble_eq_true rfl) (Nat.le_of_ble_eq_true rfl) (by show 0 + 0 + cb ≤ 34; omega) ?_
  rw [ite_self]
  refine z_copyt (q1 := 0) (ws' := [(a5, .inl (g 5, cb, .inl (va_cpy f_tx (fun _ => 0) ab 0 cb)))]) X ql_J7_ac dJ7_copyOfRangeByte_39247_27 hKT.2.2.2.2 rfl ⟨nI_pos (by omega), by decide, nI_pos (by omega), by rw [nI_clamp (by omega), nI_clamp (by omega)]; omega, by rw [sb_cl0, nI_clamp (by omega)]; omega⟩ (fun j hj => (htx.2 j hj).2) (by rw [nI_clamp (n := ab) (by omega), nI_clamp (n := cb) (by omega), sb_cl0]; rfl) (Nat.le_of_ble_eq_true rfl) (Nat.le_of_ble_eq_true rfl) ?_
  refine z_aload X 0 dJ7_copyOfRangeByte_39247_30 rfl ?_
  exact z_oaret X hQ (Nat.le_of_ble_eq_true rfl) (by show 0 + 0 + cb ≤ 34; omega) hr (Or.inr ⟨_, rfl⟩) dJ7_copyOfRangeByte_39247_32 a5 trivial rfl (List.Perm.refl _)

set_option maxHeartbeats 4000000 in
set_option maxRecDepth 100000 in
theorem c_st_rng (l : Launch) (hfl : l.stackTraces = false) (ev : LEv) (D : va_G) (g : Nat → ClassId) (q_tx v_tx n_tx : Nat) (f_tx : Nat → Int32) (ab cb : Nat) (tm : List Int32) (htx : TQ n_tx f_tx tm) (h0 : 0 < ab) (hc : 0 < cb) (h1 : ab + cb = n_tx) (h2 : n_tx ≤ 34) : MO l yJ7_copyOfRange_39247 (Cond.code yJ7_copyOfRange_39247 cJ7_copyOfRange_39247 3 (some (.array .byte))) { frames := 2, cells := 1, slots := 34, locals := 64 } (KT ev q_tx v_tx n_tx f_tx) D g [.ref v_tx, .int (nI ab), .int (nI (ab + cb))] [] (fun _ : Nat => True) (fun a => some (.ref a)) (fun a => [(a, .inl (g 5, cb, .inl (va_cpy f_tx (fun _ => 0) ab 0 cb)))]) 1 34 := by
  refine z_o_start (by decide) (Nat.le_of_ble_eq_true rfl) ?_
  intro p e s m args below meth c Q A X hr hin hK hA hQ
  have hKT := hK
  have hK := hKT.1
  refine z_lv (lv' := [(0, .ref v_tx), (1, .int (nI ab)), (2, .int (nI (ab + cb)))]) rfl ?_
  refine z_iload_n X 1 dJ7_copyOfRange_39247_0 rfl rfl ?_
  refine z_if_ne (F1 := some ()) (F2 := some ()) (o := ()) X 10 dJ7_copyOfRange_39247_1 (by decide) (by unfold brn; split <;> rfl) (fun hh _ => absurd hh (nI_ne0 (by omega) (by omega))) (fun _ _ => ?_)
  refine z_aload_n X 0 dJ7_copyOfRange_39247_10 rfl rfl ?_
  refine z_iload_n X 1 dJ7_copyOfRange_39247_11 rfl rfl ?_
  refine z_iload_n X 2 dJ7_copyOfRange_39247_12 rfl rfl ?_
  refine z_oS (rest := []) (wr := []) X (KT_ok ev q_tx v_tx n_tx f_tx) (kc_of (KT_ok ev q_tx v_tx n_tx f_tx) (fun _ _ _ q => q) hKT hA (pm_bkc (wr := []) (List.Perm.refl _))) hA k_J7_copyOfRangeByte_39247 (c_st_rngB l hfl ev D g q_tx v_tx n_tx f_tx ab cb tm htx h0 hc h1 h2) ql_J7_J7_copyOfRangeByte_39247 dJ7_copyOfRange_39247_13 (List.Perm.refl _) rfl rfl ⟨Nat.le_of_ble_eq_true rfl, Nat.le_of_ble_eq_true rfl, rfl, rfl, Nat.le_of_ble_eq_true rfl, Nat.le_of_ble_eq_true rfl⟩ (Nat.le_of_ble_eq_true rfl) (fun a ha => ?_)
  refine z_perm (ws' := [(a, .inl (g 5, cb, .inl (va_cpy f_tx (fun _ => 0) ab 0 cb)))]) (List.Perm.refl _) ?_
  exact z_oaret X hQ (Nat.le_of_ble_eq_true rfl) (Nat.le_of_ble_eq_true rfl) hr (Or.inr ⟨_, rfl⟩) dJ7_copyOfRange_39247_16 a trivial rfl (List.Perm.refl _)

theorem k_J1_newString_b4f7a : cardS yJ1_newString_b4f7a (Cond.code yJ1_newString_b4f7a cJ1_newString_b4f7a 3 (some (.object "java/lang/String"))) 3 := ⟨qs_J1_newString_b4f7a, qc_J1_newString_b4f7a, qn_J1, by decide +kernel, by decide +kernel, by decide +kernel⟩

theorem dJ1_newString_b4f7a_0 : decode cJ1_newString_b4f7a 0 = .ok (.iload_n 2, 1) := by decide +kernel
theorem dJ1_newString_b4f7a_1 : decode cJ1_newString_b4f7a 1 = .ok (.ifCond .ne 6, 3) := by decide +kernel
theorem dJ1_newString_b4f7a_4 : decode cJ1_newString_b4f7a 4 = .ok (.ldc 151, 2) := by decide +kernel
theorem dJ1_newString_b4f7a_6 : decode cJ1_newString_b4f7a 6 = .ok (.areturn, 1) := by decide +kernel
theorem dJ1_newString_b4f7a_7 : decode cJ1_newString_b4f7a 7 = .ok (.new 1, 3) := by decide +kernel
theorem dJ1_newString_b4f7a_10 : decode cJ1_newString_b4f7a 10 = .ok (.dup, 1) := by decide +kernel
theorem dJ1_newString_b4f7a_11 : decode cJ1_newString_b4f7a 11 = .ok (.aload_n 0, 1) := by decide +kernel
theorem dJ1_newString_b4f7a_12 : decode cJ1_newString_b4f7a 12 = .ok (.iload_n 1, 1) := by decide +kernel
theorem dJ1_newString_b4f7a_13 : decode cJ1_newString_b4f7a 13 = .ok (.iload_n 1, 1) := by decide +kernel
theorem dJ1_newString_b4f7a_14 : decode cJ1_newString_b4f7a 14 = .ok (.iload_n 2, 1) := by decide +kernel
theorem dJ1_newString_b4f7a_15 : decode cJ1_newString_b4f7a 15 = .ok (.iadd, 1) := by decide +kernel
theorem dJ1_newString_b4f7a_16 : decode cJ1_newString_b4f7a 16 = .ok (.invokestatic 232, 3) := by decide +kernel
theorem dJ1_newString_b4f7a_19 : decode cJ1_newString_b4f7a 19 = .ok (.iconst 0, 1) := by decide +kernel
theorem dJ1_newString_b4f7a_20 : decode cJ1_newString_b4f7a 20 = .ok (.invokespecial 112, 3) := by decide +kernel
theorem dJ1_newString_b4f7a_23 : decode cJ1_newString_b4f7a 23 = .ok (.areturn, 1) := by decide +kernel
set_option maxHeartbeats 4000000 in
set_option maxRecDepth 100000 in
theorem c_st_new0 (l : Launch) (hfl : l.stackTraces = false) (ev : LEv) (D : va_G) (g : Nat → ClassId) (q_tx v_tx n_tx : Nat) (f_tx : Nat → Int32) (ab cb : Nat) (tm : List Int32) (htx : TQ n_tx f_tx tm) (hc : cb = 0) (h1 : ab + cb = n_tx) : MO l yJ1_newString_b4f7a (Cond.code yJ1_newString_b4f7a cJ1_newString_b4f7a 3 (some (.object "java/lang/String"))) { frames := 3, cells := 2, slots := 38, locals := 86 } (KT ev q_tx v_tx n_tx f_tx) D g [.ref v_tx, .int (nI ab), .int (nI cb)] [] (SubR ev g q_tx v_tx n_tx f_tx (tm.drop ab)) (fun a => some (.ref a.1)) (fun a => a.2.2.2.2) 2 38 := by
  subst hc
  refine z_o_start (by decide) (Nat.le_of_ble_eq_true rfl) ?_
  intro p e s m args below meth c Q A X hr hin hK hA hQ
  have hKT := hK
  have hK := hKT.1
  refine z_lv (lv' := [(0, .ref v_tx), (1, .int (nI ab)), (2, .int (nI 0))]) rfl ?_
  refine z_iload_n X 2 dJ1_newString_b4f7a_0 rfl rfl ?_
  refine z_if_ne (F1 := some ()) (F2 := some ()) (o := ()) X 7 dJ1_newString_b4f7a_1 (by decide) (by unfold brn; split <;> rfl) (fun _ _ => ?_) (fun hh _ => absurd (show nI 0 = 0 from rfl) hh)
  refine z_ldcR X hK.2.2.2.2.2.2.1 dJ1_newString_b4f7a_4 ?_
  exact z_oaret X hQ (Nat.le_of_ble_eq_true rfl) (Nat.le_of_ble_eq_true rfl) hr (Or.inl ⟨_, rfl⟩) dJ1_newString_b4f7a_6 (ev.qE, ev.vE, 0, fE, []) ⟨by rw [show ab = n_tx by omega]; exact htx.end, Or.inr (Or.inl rfl)⟩ rfl (List.Perm.refl _)

set_option maxHeartbeats 4000000 in
set_option maxRecDepth 100000 in
theorem c_st_new1 (l : Launch) (hfl : l.stackTraces = false) (ev : LEv) (D : va_G) (g : Nat → ClassId) (q_tx v_tx n_tx : Nat) (f_tx : Nat → Int32) (ab cb : Nat) (tm : List Int32) (htx : TQ n_tx f_tx tm) (h0 : 0 < ab) (hc : 0 < cb) (h1 : ab + cb = n_tx) (h2 : n_tx ≤ 34) : MO l yJ1_newString_b4f7a (Cond.code yJ1_newString_b4f7a cJ1_newString_b4f7a 3 (some (.object "java/lang/String"))) { frames := 3, cells := 2, slots := 38, locals := 86 } (KT ev q_tx v_tx n_tx f_tx) D g [.ref v_tx, .int (nI ab), .int (nI cb)] [] (SubR ev g q_tx v_tx n_tx f_tx (tm.drop ab)) (fun a => some (.ref a.1)) (fun a => a.2.2.2.2) 2 38 := by
  refine z_o_start (by decide) (Nat.le_of_ble_eq_true rfl) ?_
  intro p e s m args below meth c Q A X hr hin hK hA hQ
  have hKT := hK
  have hK := hKT.1
  refine z_lv (lv' := [(0, .ref v_tx), (1, .int (nI ab)), (2, .int (nI cb))]) rfl ?_
  refine z_iload_n X 2 dJ1_newString_b4f7a_0 rfl rfl ?_
  refine z_if_ne (F1 := some ()) (F2 := some ()) (o := ()) X 7 dJ1_newString_b4f7a_1 (by decide) (by unfold brn; split <;> rfl) (fun hh _ => absurd hh (nI_ne0 (by omega) (by omega))) (fun _ _ => ?_)
  refine z_new (ci := 0) [.null, .int 0, .int 0, .int 0] X hA iw_J0 tyJ0_ok qk_J1_J0 qt_J0 qn_J0 rfl (fun j hj => by rcases (show j = 0 ∨ j = 1 ∨ j = 2 ∨ j = 3 by omega) with rfl | rfl | rfl | rfl <;> rfl) (Nat.le_of_ble_eq_true rfl) (Nat.le_of_ble_eq_true rfl) dJ1_newString_b4f7a_7 (fun r5 => ?_)
  refine z_perm (ws' := [(r5, .inr (0, [.null, .int 0, .int 0, .int 0]))]) List.perm_append_comm ?_
  refine z_dup X dJ1_newString_b4f7a_10 rfl ?_
  refine z_aload_n X 0 dJ1_newString_b4f7a_11 rfl rfl ?_
  refine z_iload_n X 1 dJ1_newString_b4f7a_12 rfl rfl ?_
  refine z_iload_n X 1 dJ1_newString_b4f7a_13 rfl rfl ?_
  refine z_iload_n X 2 dJ1_newString_b4f7a_14 rfl rfl ?_
  refine z_iadd X dJ1_newString_b4f7a_15 ?_
  rw [show (((nI ab) + (nI cb)) : Int32) = nI (ab + cb) from nI_add _ _]
  refine z_oS (rest := [.ref r5, .ref r5]) (wr := [(r5, .inr (0, [.null, .int 0, .int 0, .int 0]))]) X (KT_ok ev q_tx v_tx n_tx f_tx) (kc_of (KT_ok ev q_tx v_tx n_tx f_tx) (fun _ _ _ q => q) hKT hA (pm_bkc (wr := [(r5, .inr (0, [.null, .int 0, .int 0, .int 0]))]) (List.Perm.refl _))) hA k_J7_copyOfRange_39247 (c_st_rng l hfl ev D g q_tx v_tx n_tx f_tx ab cb tm htx h0 hc h1 h2) ql_J1_J7_copyOfRange_39247 dJ1_newString_b4f7a_16 (List.Perm.refl _) rfl rfl ⟨Nat.le_of_ble_eq_true rfl, Nat.le_of_ble_eq_true rfl, rfl, rfl, Nat.le_of_ble_eq_true rfl, Nat.le_of_ble_eq_true rfl⟩ (Nat.le_of_ble_eq_true rfl) (fun a ha => ?_)
  refine z_perm (ws' := [(r5, .inr (0, [.null, .int 0, .int 0, .int 0])), (a, .inl (g 5, cb, .inl (va_cpy f_tx (fun _ => 0) ab 0 cb)))]) (List.Perm.refl _) ?_
  refine z_iconst X (0 : Int32) dJ1_newString_b4f7a_19 (by decide) ?_
  refine z_oI (n := 2) (rest := [.ref r5]) (wr := []) X (KF_ok ev) (kc_of (KT_ok ev q_tx v_tx n_tx f_tx) (fun _ _ _ q => q.1) hKT hA (pm_bkc (wr := []) (perm_of (n := 2) (E := [(r5, .inr (0, [.null, .int 0, .int 0, .int 0])), (a, .inl (g 5, cb, .inl (va_cpy f_tx (fun _ => 0) ab 0 cb)))]) (wc := [(r5, .inr (0, [.null, .int 0, .int 0, .int 0])), (a, .inl (g 5, cb, .inl (va_cpy f_tx (fun _ => 0) ab 0 cb)))]) (wr := []) [0, 1] [] rfl rfl rfl (by decide +kernel)))) hA (c_sb_raw l hfl ev D g r5 a cb (va_cpy f_tx (fun _ => 0) ab 0 cb)) qc_J0_init_031fb qn_J0 rfl ⟨by decide, by decide⟩ (by decide +kernel) ql_J1_J0_init_031fb qi_J0_init_031fb dJ1_newString_b4f7a_20 (perm_of (n := 2) (E := [(r5, .inr (0, [.null, .int 0, .int 0, .int 0])), (a, .inl (g 5, cb, .inl (va_cpy f_tx (fun _ => 0) ab 0 cb)))]) (wc := [(r5, .inr (0, [.null, .int 0, .int 0, .int 0])), (a, .inl (g 5, cb, .inl (va_cpy f_tx (fun _ => 0) ab 0 cb)))]) (wr := []) [0, 1] [] rfl rfl rfl (by decide +kernel)) rfl rfl ⟨Nat.le_of_ble_eq_true rfl, Nat.le_of_ble_eq_true rfl, rfl, rfl, Nat.le_of_ble_eq_true rfl, Nat.le_of_ble_eq_true rfl⟩ (Nat.le_of_ble_eq_true rfl) (fun b ha => ?_)
  refine z_perm (ws' := [(r5, .inr (0, [.ref a, .int 0, .int 0, .int 0])), (a, .inl (g 5, cb, .inl (va_cpy f_tx (fun _ => 0) ab 0 cb)))]) (List.Perm.refl _) ?_
  exact z_oaret X hQ (Nat.le_of_ble_eq_true rfl) (Nat.le_of_ble_eq_true rfl) hr (Or.inl ⟨_, rfl⟩) dJ1_newString_b4f7a_23 (r5, a, cb, va_cpy f_tx (fun _ => 0) ab 0 cb, STW g r5 a cb (va_cpy f_tx (fun _ => 0) ab 0 cb)) ⟨htx.drop h1, Or.inr (Or.inr rfl)⟩ rfl (List.Perm.refl _)

theorem c_st_new (l : Launch) (hfl : l.stackTraces = false) (ev : LEv) (D : va_G) (g : Nat → ClassId) (q_tx v_tx n_tx : Nat) (f_tx : Nat → Int32) (ab cb : Nat) (tm : List Int32) (htx : TQ n_tx f_tx tm) (h0 : 0 < ab) (h1 : ab + cb = n_tx) (h2 : n_tx ≤ 34) : MO l yJ1_newString_b4f7a (Cond.code yJ1_newString_b4f7a cJ1_newString_b4f7a 3 (some (.object "java/lang/String"))) { frames := 3, cells := 2, slots := 38, locals := 86 } (KT ev q_tx v_tx n_tx f_tx) D g [.ref v_tx, .int (nI ab), .int (nI cb)] [] (SubR ev g q_tx v_tx n_tx f_tx (tm.drop ab)) (fun a => some (.ref a.1)) (fun a => a.2.2.2.2) 2 38 := by
  by_cases hc : cb = 0
  · exact c_st_new0 l hfl ev D g q_tx v_tx n_tx f_tx ab cb tm htx hc h1
  · exact c_st_new1 l hfl ev D g q_tx v_tx n_tx f_tx ab cb tm htx h0 (by omega) h1 h2

theorem k_J0_substring_37a41 : cardV yJ0_substring_37a41 (Cond.code yJ0_substring_37a41 cJ0_substring_37a41 5 (some (.object "java/lang/String"))) 2 := ⟨⟨qi_J0_substring_37a41, qv_J0_substring_37a41⟩, qc_J0_substring_37a41, qn_J0, by decide +kernel, by decide +kernel, by decide +kernel⟩

theorem dJ0_substring_37a41_0 : decode cJ0_substring_37a41 0 = .ok (.aload_n 0, 1) := by decide +kernel
theorem dJ0_substring_37a41_1 : decode cJ0_substring_37a41 1 = .ok (.invokevirtual 505, 3) := by decide +kernel
theorem dJ0_substring_37a41_4 : decode cJ0_substring_37a41 4 = .ok (.istore_n 3, 1) := by decide +kernel
theorem dJ0_substring_37a41_5 : decode cJ0_substring_37a41 5 = .ok (.iload_n 1, 1) := by decide +kernel
theorem dJ0_substring_37a41_6 : decode cJ0_substring_37a41 6 = .ok (.iload_n 2, 1) := by decide +kernel
theorem dJ0_substring_37a41_7 : decode cJ0_substring_37a41 7 = .ok (.iload_n 3, 1) := by decide +kernel
theorem dJ0_substring_37a41_8 : decode cJ0_substring_37a41 8 = .ok (.invokestatic 521, 3) := by decide +kernel
theorem dJ0_substring_37a41_11 : decode cJ0_substring_37a41 11 = .ok (.iload_n 1, 1) := by decide +kernel
theorem dJ0_substring_37a41_12 : decode cJ0_substring_37a41 12 = .ok (.ifCond .ne 10, 3) := by decide +kernel
theorem dJ0_substring_37a41_15 : decode cJ0_substring_37a41 15 = .ok (.iload_n 2, 1) := by decide +kernel
theorem dJ0_substring_37a41_16 : decode cJ0_substring_37a41 16 = .ok (.iload_n 3, 1) := by decide +kernel
theorem dJ0_substring_37a41_17 : decode cJ0_substring_37a41 17 = .ok (.if_icmp .ne 5, 3) := by decide +kernel
theorem dJ0_substring_37a41_20 : decode cJ0_substring_37a41 20 = .ok (.aload_n 0, 1) := by decide +kernel
theorem dJ0_substring_37a41_21 : decode cJ0_substring_37a41 21 = .ok (.areturn, 1) := by decide +kernel
theorem dJ0_substring_37a41_22 : decode cJ0_substring_37a41 22 = .ok (.iload_n 2, 1) := by decide +kernel
theorem dJ0_substring_37a41_23 : decode cJ0_substring_37a41 23 = .ok (.iload_n 1, 1) := by decide +kernel
theorem dJ0_substring_37a41_24 : decode cJ0_substring_37a41 24 = .ok (.isub, 1) := by decide +kernel
theorem dJ0_substring_37a41_25 : decode cJ0_substring_37a41 25 = .ok (.istore 4, 2) := by decide +kernel
theorem dJ0_substring_37a41_27 : decode cJ0_substring_37a41 27 = .ok (.aload_n 0, 1) := by decide +kernel
theorem dJ0_substring_37a41_28 : decode cJ0_substring_37a41 28 = .ok (.invokevirtual 492, 3) := by decide +kernel
theorem dJ0_substring_37a41_31 : decode cJ0_substring_37a41 31 = .ok (.ifCond .eq 16, 3) := by decide +kernel
theorem dJ0_substring_37a41_34 : decode cJ0_substring_37a41 34 = .ok (.aload_n 0, 1) := by decide +kernel
theorem dJ0_substring_37a41_35 : decode cJ0_substring_37a41 35 = .ok (.getfield 9, 3) := by decide +kernel
theorem dJ0_substring_37a41_38 : decode cJ0_substring_37a41 38 = .ok (.iload_n 1, 1) := by decide +kernel
theorem dJ0_substring_37a41_39 : decode cJ0_substring_37a41 39 = .ok (.iload 4, 2) := by decide +kernel
theorem dJ0_substring_37a41_41 : decode cJ0_substring_37a41 41 = .ok (.invokestatic 685, 3) := by decide +kernel
theorem dJ0_substring_37a41_44 : decode cJ0_substring_37a41 44 = .ok (.goto 13, 3) := by decide +kernel
theorem dJ0_substring_37a41_47 : decode cJ0_substring_37a41 47 = .ok (.aload_n 0, 1) := by decide +kernel
theorem dJ0_substring_37a41_48 : decode cJ0_substring_37a41 48 = .ok (.getfield 9, 3) := by decide +kernel
theorem dJ0_substring_37a41_51 : decode cJ0_substring_37a41 51 = .ok (.iload_n 1, 1) := by decide +kernel
theorem dJ0_substring_37a41_52 : decode cJ0_substring_37a41 52 = .ok (.iload 4, 2) := by decide +kernel
theorem dJ0_substring_37a41_54 : decode cJ0_substring_37a41 54 = .ok (.invokestatic 689, 3) := by decide +kernel
theorem dJ0_substring_37a41_57 : decode cJ0_substring_37a41 57 = .ok (.areturn, 1) := by decide +kernel
set_option maxHeartbeats 4000000 in
set_option maxRecDepth 100000 in
theorem c_st_sub0 (l : Launch) (hfl : l.stackTraces = false) (ev : LEv) (D : va_G) (g : Nat → ClassId) (q_tx v_tx n_tx : Nat) (f_tx : Nat → Int32) (ab : Nat) (tm : List Int32) (htx : TQ n_tx f_tx tm) (h0 : ab = 0) (h2 : n_tx ≤ 34) : MO l yJ0_substring_37a41 (Cond.code yJ0_substring_37a41 cJ0_substring_37a41 5 (some (.object "java/lang/String"))) { frames := 4, cells := 2, slots := 38, locals := 108 } (KT ev q_tx v_tx n_tx f_tx) D g [.ref q_tx, .int (nI ab), .int (nI n_tx)] [] (SubR ev g q_tx v_tx n_tx f_tx (tm.drop ab)) (fun a => some (.ref a.1)) (fun a => a.2.2.2.2) 2 38 := by
  refine z_o_start (by decide) (Nat.le_of_ble_eq_true rfl) ?_
  intro p e s m args below meth c Q A X hr hin hK hA hQ
  have hKT := hK
  have hK := hKT.1
  refine z_lv (lv' := [(0, .ref q_tx), (1, .int (nI ab)), (2, .int (nI n_tx))]) rfl ?_
  refine z_aload_n X 0 dJ0_substring_37a41_0 rfl rfl ?_
  refine z_kV (rest := []) X (KT_ok ev q_tx v_tx n_tx f_tx) IW_S hKT k_J0_length_8abf5 (t_length l ev D g q_tx v_tx n_tx f_tx) ql_J0_J0_length_8abf5 dJ0_substring_37a41_1 hKT.2.1 rfl rfl rfl ⟨Nat.le_of_ble_eq_true rfl, Nat.le_of_ble_eq_true rfl, rfl, rfl, Nat.le_of_ble_eq_true rfl, Nat.le_of_ble_eq_true rfl⟩ (Nat.le_of_ble_eq_true rfl) ?_
  refine z_istore_n X [(3, .int (nI n_tx)), (0, .ref q_tx), (1, .int (nI ab)), (2, .int (nI n_tx))] dJ0_substring_37a41_4 rfl (by decide) rfl ?_
  refine z_iload_n X 2 dJ0_substring_37a41_5 rfl rfl ?_
  refine z_iload_n X 3 dJ0_substring_37a41_6 rfl rfl ?_
  refine z_iload_n X 0 dJ0_substring_37a41_7 rfl rfl ?_
  refine z_edS (rest := []) X IW_S hK.1 k_J0_checkBoundsBeginEnd_23922 (c_J0_bounds l ev.ak ev.av ev.aS D g (nI ab) (nI n_tx) (nI n_tx) (nI_pos (by omega)) (nI_nlt (by omega) (by omega)) (nI_le (by omega) (by omega))) ql_J0_J0_checkBoundsBeginEnd_23922 dJ0_substring_37a41_8 rfl rfl ⟨Nat.le_of_ble_eq_true rfl, Nat.le_of_ble_eq_true rfl, rfl, rfl, Nat.le_of_ble_eq_true rfl, Nat.le_of_ble_eq_true rfl⟩ (Nat.le_of_ble_eq_true rfl) ?_
  refine z_iload_n X 2 dJ0_substring_37a41_11 rfl rfl ?_
  refine z_if_ne (F1 := some ()) (F2 := some ()) (o := ()) X 22 dJ0_substring_37a41_12 (by decide) (by unfold brn; split <;> rfl) (fun _ _ => ?_) (fun hh _ => absurd (by rw [h0]; rfl) hh)
  refine z_iload_n X 3 dJ0_substring_37a41_15 rfl rfl ?_
  refine z_iload_n X 0 dJ0_substring_37a41_16 rfl rfl ?_
  refine z_icmp_ne (F1 := some ()) (F2 := some ()) (o := ()) X 22 dJ0_substring_37a41_17 (by decide) (by unfold brn; split <;> rfl) (fun _ _ => ?_) (fun hh _ => absurd rfl hh)
  refine z_aload_n X 1 dJ0_substring_37a41_20 rfl rfl ?_
  exact z_oaret X hQ (Nat.le_of_ble_eq_true rfl) (Nat.le_of_ble_eq_true rfl) hr (Or.inl ⟨_, rfl⟩) dJ0_substring_37a41_21 (q_tx, v_tx, n_tx, f_tx, []) ⟨by rw [h0]; exact htx, Or.inl rfl⟩ rfl (List.Perm.refl _)

set_option maxHeartbeats 4000000 in
set_option maxRecDepth 100000 in
theorem c_st_sub1 (l : Launch) (hfl : l.stackTraces = false) (ev : LEv) (D : va_G) (g : Nat → ClassId) (q_tx v_tx n_tx : Nat) (f_tx : Nat → Int32) (ab : Nat) (tm : List Int32) (htx : TQ n_tx f_tx tm) (h0 : 0 < ab) (h1 : ab ≤ n_tx) (h2 : n_tx ≤ 34) : MO l yJ0_substring_37a41 (Cond.code yJ0_substring_37a41 cJ0_substring_37a41 5 (some (.object "java/lang/String"))) { frames := 4, cells := 2, slots := 38, locals := 108 } (KT ev q_tx v_tx n_tx f_tx) D g [.ref q_tx, .int (nI ab), .int (nI n_tx)] [] (SubR ev g q_tx v_tx n_tx f_tx (tm.drop ab)) (fun a => some (.ref a.1)) (fun a => a.2.2.2.2) 2 38 := by
  refine z_o_start (by decide) (Nat.le_of_ble_eq_true rfl) ?_
  intro p e s m args below meth c Q A X hr hin hK hA hQ
  have hKT := hK
  have hK := hKT.1
  refine z_lv (lv' := [(0, .ref q_tx), (1, .int (nI ab)), (2, .int (nI n_tx))]) rfl ?_
  refine z_aload_n X 0 dJ0_substring_37a41_0 rfl rfl ?_
  refine z_kV (rest := []) X (KT_ok ev q_tx v_tx n_tx f_tx) IW_S hKT k_J0_length_8abf5 (t_length l ev D g q_tx v_tx n_tx f_tx) ql_J0_J0_length_8abf5 dJ0_substring_37a41_1 hKT.2.1 rfl rfl rfl ⟨Nat.le_of_ble_eq_true rfl, Nat.le_of_ble_eq_true rfl, rfl, rfl, Nat.le_of_ble_eq_true rfl, Nat.le_of_ble_eq_true rfl⟩ (Nat.le_of_ble_eq_true rfl) ?_
  refine z_istore_n X [(3, .int (nI n_tx)), (0, .ref q_tx), (1, .int (nI ab)), (2, .int (nI n_tx))] dJ0_substring_37a41_4 rfl (by decide) rfl ?_
  refine z_iload_n X 2 dJ0_substring_37a41_5 rfl rfl ?_
  refine z_iload_n X 3 dJ0_substring_37a41_6 rfl rfl ?_
  refine z_iload_n X 0 dJ0_substring_37a41_7 rfl rfl ?_
  refine z_edS (rest := []) X IW_S hK.1 k_J0_checkBoundsBeginEnd_23922 (c_J0_bounds l ev.ak ev.av ev.aS D g (nI ab) (nI n_tx) (nI n_tx) (nI_pos (by omega)) (nI_nlt (by omega) (by omega)) (nI_le (by omega) (by omega))) ql_J0_J0_checkBoundsBeginEnd_23922 dJ0_substring_37a41_8 rfl rfl ⟨Nat.le_of_ble_eq_true rfl, Nat.le_of_ble_eq_true rfl, rfl, rfl, Nat.le_of_ble_eq_true rfl, Nat.le_of_ble_eq_true rfl⟩ (Nat.le_of_ble_eq_true rfl) ?_
  refine z_iload_n X 2 dJ0_substring_37a41_11 rfl rfl ?_
  refine z_if_ne (F1 := some ()) (F2 := some ()) (o := ()) X 22 dJ0_substring_37a41_12 (by decide) (by unfold brn; split <;> rfl) (fun hh _ => absurd hh (nI_ne0 (by omega) (by omega))) (fun _ _ => ?_)
  refine z_iload_n X 3 dJ0_substring_37a41_22 rfl rfl ?_
  refine z_iload_n X 2 dJ0_substring_37a41_23 rfl rfl ?_
  refine z_isub X dJ0_substring_37a41_24 ?_
  rw [show (((nI n_tx) - (nI ab)) : Int32) = nI (n_tx - ab) from pk_sub (by omega)]
  refine z_istore X [(4, .int (nI (n_tx - ab))), (3, .int (nI n_tx)), (0, .ref q_tx), (1, .int (nI ab)), (2, .int (nI n_tx))] dJ0_substring_37a41_25 (by decide) rfl ?_
  refine z_aload_n X 2 dJ0_substring_37a41_27 rfl rfl ?_
  refine z_kV (rest := []) X (KT_ok ev q_tx v_tx n_tx f_tx) IW_S hKT k_J0_isLatin1_aae02 (t_isLatin1 l ev D g q_tx v_tx n_tx f_tx) ql_J0_J0_isLatin1_aae02 dJ0_substring_37a41_28 hKT.2.1 rfl rfl rfl ⟨Nat.le_of_ble_eq_true rfl, Nat.le_of_ble_eq_true rfl, rfl, rfl, Nat.le_of_ble_eq_true rfl, Nat.le_of_ble_eq_true rfl⟩ (Nat.le_of_ble_eq_true rfl) ?_
  refine z_if_eq (F1 := some ()) (F2 := some ()) (o := ()) X 47 dJ0_substring_37a41_31 (by decide) (by unfold brn; split <;> rfl) (fun hh _ => absurd hh (by decide)) (fun _ _ => ?_)
  refine z_aload_n X 2 dJ0_substring_37a41_34 rfl rfl ?_
  refine z_getc X IW_S hKT.2.2.2.1 qf_J0_J0_value dJ0_substring_37a41_35 ?_
  refine z_iload_n X 3 dJ0_substring_37a41_38 rfl rfl ?_
  refine z_iload X 0 dJ0_substring_37a41_39 rfl ?_
  refine z_oS (rest := []) (wr := []) X (KT_ok ev q_tx v_tx n_tx f_tx) (kc_of (KT_ok ev q_tx v_tx n_tx f_tx) (fun _ _ _ q => q) hKT hA (pm_bkc (wr := []) (List.Perm.refl _))) hA k_J1_newString_b4f7a (c_st_new l hfl ev D g q_tx v_tx n_tx f_tx ab (n_tx - ab) tm htx h0 (by omega) h2) ql_J0_J1_newString_b4f7a dJ0_substring_37a41_41 (List.Perm.refl _) rfl rfl ⟨Nat.le_of_ble_eq_true rfl, Nat.le_of_ble_eq_true rfl, rfl, rfl, Nat.le_of_ble_eq_true rfl, Nat.le_of_ble_eq_true rfl⟩ (Nat.le_of_ble_eq_true rfl) (fun a ha => ?_)
  refine z_perm (ws' := a.2.2.2.2) (List.Perm.refl _) ?_
  refine z_goto X 57 dJ0_substring_37a41_44 (by decide) ?_
  exact z_oaret X hQ (Nat.le_of_ble_eq_true rfl) (Nat.le_of_ble_eq_true rfl) hr (Or.inl ⟨_, rfl⟩) dJ0_substring_37a41_57 a ha rfl (List.Perm.refl _)

theorem c_st_sub (l : Launch) (hfl : l.stackTraces = false) (ev : LEv) (D : va_G) (g : Nat → ClassId) (q_tx v_tx n_tx : Nat) (f_tx : Nat → Int32) (ab : Nat) (tm : List Int32) (htx : TQ n_tx f_tx tm) (h1 : ab ≤ n_tx) (h2 : n_tx ≤ 34) : MO l yJ0_substring_37a41 (Cond.code yJ0_substring_37a41 cJ0_substring_37a41 5 (some (.object "java/lang/String"))) { frames := 4, cells := 2, slots := 38, locals := 108 } (KT ev q_tx v_tx n_tx f_tx) D g [.ref q_tx, .int (nI ab), .int (nI n_tx)] [] (SubR ev g q_tx v_tx n_tx f_tx (tm.drop ab)) (fun a => some (.ref a.1)) (fun a => a.2.2.2.2) 2 38 := by
  by_cases h0 : ab = 0
  · exact c_st_sub0 l hfl ev D g q_tx v_tx n_tx f_tx ab tm htx h0 h2
  · exact c_st_sub1 l hfl ev D g q_tx v_tx n_tx f_tx ab tm htx (by omega) h1 h2

theorem k_J0_substring_b52d3 : cardV yJ0_substring_b52d3 (Cond.code yJ0_substring_b52d3 cJ0_substring_b52d3 2 (some (.object "java/lang/String"))) 1 := ⟨⟨qi_J0_substring_b52d3, qv_J0_substring_b52d3⟩, qc_J0_substring_b52d3, qn_J0, by decide +kernel, by decide +kernel, by decide +kernel⟩

theorem dJ0_substring_b52d3_0 : decode cJ0_substring_b52d3 0 = .ok (.aload_n 0, 1) := by decide +kernel
theorem dJ0_substring_b52d3_1 : decode cJ0_substring_b52d3 1 = .ok (.iload_n 1, 1) := by decide +kernel
theorem dJ0_substring_b52d3_2 : decode cJ0_substring_b52d3 2 = .ok (.aload_n 0, 1) := by decide +kernel
theorem dJ0_substring_b52d3_3 : decode cJ0_substring_b52d3 3 = .ok (.invokevirtual 505, 3) := by decide +kernel
theorem dJ0_substring_b52d3_6 : decode cJ0_substring_b52d3 6 = .ok (.invokevirtual 681, 3) := by decide +kernel
theorem dJ0_substring_b52d3_9 : decode cJ0_substring_b52d3 9 = .ok (.areturn, 1) := by decide +kernel
set_option maxHeartbeats 4000000 in
set_option maxRecDepth 100000 in
theorem c_st_end (l : Launch) (hfl : l.stackTraces = false) (ev : LEv) (D : va_G) (g : Nat → ClassId) (q_tx v_tx n_tx : Nat) (f_tx : Nat → Int32) (ab : Nat) (tm : List Int32) (htx : TQ n_tx f_tx tm) (h1 : ab ≤ n_tx) (h2 : n_tx ≤ 34) : MO l yJ0_substring_b52d3 (Cond.code yJ0_substring_b52d3 cJ0_substring_b52d3 2 (some (.object "java/lang/String"))) { frames := 5, cells := 2, slots := 38, locals := 132 } (KT ev q_tx v_tx n_tx f_tx) D g [.ref q_tx, .int (nI ab)] [] (SubR ev g q_tx v_tx n_tx f_tx (tm.drop ab)) (fun a => some (.ref a.1)) (fun a => a.2.2.2.2) 2 38 := by
  refine z_o_start (by decide) (Nat.le_of_ble_eq_true rfl) ?_
  intro p e s m args below meth c Q A X hr hin hK hA hQ
  have hKT := hK
  have hK := hKT.1
  refine z_lv (lv' := [(0, .ref q_tx), (1, .int (nI ab))]) rfl ?_
  refine z_aload_n X 0 dJ0_substring_b52d3_0 rfl rfl ?_
  refine z_iload_n X 1 dJ0_substring_b52d3_1 rfl rfl ?_
  refine z_aload_n X 0 dJ0_substring_b52d3_2 rfl rfl ?_
  refine z_kV (rest := [.int (nI ab), .ref q_tx]) X (KT_ok ev q_tx v_tx n_tx f_tx) IW_S hKT k_J0_length_8abf5 (t_length l ev D g q_tx v_tx n_tx f_tx) ql_J0_J0_length_8abf5 dJ0_substring_b52d3_3 hKT.2.1 rfl rfl rfl ⟨Nat.le_of_ble_eq_true rfl, Nat.le_of_ble_eq_true rfl, rfl, rfl, Nat.le_of_ble_eq_true rfl, Nat.le_of_ble_eq_true rfl⟩ (Nat.le_of_ble_eq_true rfl) ?_
  refine z_oV (rest := []) (wr := []) X (KT_ok ev q_tx v_tx n_tx f_tx) (kc_of (KT_ok ev q_tx v_tx n_tx f_tx) (fun _ _ _ q => q) hKT hA (pm_bkc (wr := []) (List.Perm.refl _))) hA k_J0_substring_37a41 (c_st_sub l hfl ev D g q_tx v_tx n_tx f_tx ab tm htx h1 h2) ql_J0_J0_substring_37a41 dJ0_substring_b52d3_6 (List.Perm.refl _) (fun H locs hI => by obtain ⟨cell, h1, h2, h3, -⟩ := hKT.2.1.kept (IW_S H locs hI).2.1; exact ⟨cell, h1, h2, h3⟩) rfl rfl ⟨Nat.le_of_ble_eq_true rfl, Nat.le_of_ble_eq_true rfl, rfl, rfl, Nat.le_of_ble_eq_true rfl, Nat.le_of_ble_eq_true rfl⟩ (Nat.le_of_ble_eq_true rfl) (fun a ha => ?_)
  refine z_perm (ws' := a.2.2.2.2) (List.Perm.refl _) ?_
  exact z_oaret X hQ (Nat.le_of_ble_eq_true rfl) (Nat.le_of_ble_eq_true rfl) hr (Or.inl ⟨_, rfl⟩) dJ0_substring_b52d3_9 a ha rfl (List.Perm.refl _)
