def F_X2_has (p1 : Int32) (f_size : Int32) : Option (Int32) :=
  brn (p1 < 0) (some ((0 : Int32))) (brn (f_size ≤ p1) (some ((0 : Int32))) (some ((1 : Int32))))
theorem dX2_has_0 : decode cX2_has 0 = .ok (.iload_n 1, 1) := by decide +kernel
theorem dX2_has_1 : decode cX2_has 1 = .ok (.ifCond .lt 15, 3) := by decide +kernel
theorem dX2_has_4 : decode cX2_has 4 = .ok (.iload_n 1, 1) := by decide +kernel
theorem dX2_has_5 : decode cX2_has 5 = .ok (.aload_n 0, 1) := by decide +kernel
theorem dX2_has_6 : decode cX2_has 6 = .ok (.getfield 27, 3) := by decide +kernel
theorem dX2_has_9 : decode cX2_has 9 = .ok (.if_icmp .ge 7, 3) := by decide +kernel
theorem dX2_has_12 : decode cX2_has 12 = .ok (.iconst 1, 1) := by decide +kernel
theorem dX2_has_13 : decode cX2_has 13 = .ok (.goto 4, 3) := by decide +kernel
theorem dX2_has_16 : decode cX2_has 16 = .ok (.iconst 0, 1) := by decide +kernel
theorem dX2_has_17 : decode cX2_has 17 = .ok (.ireturn, 1) := by decide +kernel
theorem k_X2_has : cardV yX2_has (Cond.code yX2_has cX2_has 2 (some .boolean)) 1 := ⟨⟨qi_X2_has, qv_X2_has⟩, qc_X2_has, qn_X2, by decide +kernel, by decide +kernel, by decide +kernel⟩
set_option maxHeartbeats 4000000 in
set_option maxRecDepth 100000 in
theorem c_X2_has (l : Launch) (D : va_G) (g : Nat → ClassId) (q_this q_cells q_froms q_tos q_rings q_pranks : Nat) (p1 : Int32) (f_size : Int32) (o : Int32) (h : F_X2_has p1 f_size = some o) : MR l yX2_has (Cond.code yX2_has cX2_has 2 (some .boolean)) { frames := 0, cells := 0, slots := 0, locals := 0 } D g [.ref q_this, .int p1] [(q_this, .inr (3, [.int f_size, .ref q_cells, .ref q_froms, .ref q_tos, .ref q_rings, .ref q_pranks]))] (some (.int o)) := by
  refine z_rd_start (by decide) (Nat.le_of_ble_eq_true rfl) ?_
  intro p e s m args below meth c Q X hr hQ
  refine z_lv (lv' := [(0, .ref q_this), (1, .int p1)]) rfl ?_
  refine z_iload_n X 1 dX2_has_0 rfl rfl ?_
  refine z_if_lt X 16 dX2_has_1 (by decide) h (fun _ h => ?_) (fun _ h => ?_)
  · refine z_iconst X (0 : Int32) dX2_has_16 (by decide) ?_
    exact z_zretR X hQ hr dX2_has_17 rfl h
  · refine z_iload_n X 1 dX2_has_4 rfl rfl ?_
    refine z_aload_n X 0 dX2_has_5 rfl rfl ?_
    refine z_get (q0 := 0) (k := 0) (ci := 3) X IR_P iw_X2 rfl qf_X2_X2_size (by decide) dX2_has_6 rfl rfl ?_
    refine z_icmp_ge X 16 dX2_has_9 (by decide) h (fun _ h => ?_) (fun _ h => ?_)
    · refine z_iconst X (0 : Int32) dX2_has_16 (by decide) ?_
      exact z_zretR X hQ hr dX2_has_17 rfl h
    · refine z_iconst X (1 : Int32) dX2_has_12 (by decide) ?_
      refine z_goto X 17 dX2_has_13 (by decide) ?_
      exact z_zretR X hQ hr dX2_has_17 rfl h

def L_X7_closeGap_2 (n_p0 : Nat) (p1 : Int32) : Nat → Int32 → (Nat → Int32) → Option ((Nat → Int32))
  | 0, _, _ => none
  | _n + 1, x2, a_p0 =>
    brn ((Int32.ofNat n_p0) ≤ (x2 + (1 : Int32))) (some (a_p0)) (brn (x2 < p1) (L_X7_closeGap_2 n_p0 p1 _n (x2 + 1) a_p0) (grd (inb (x2 + (1 : Int32)) n_p0) (grd (inb x2 n_p0) (L_X7_closeGap_2 n_p0 p1 _n (x2 + 1) (upd a_p0 x2.toNatClampNeg (a_p0 (x2 + (1 : Int32)).toNatClampNeg))))))

def F_X7_closeGap (n_p0 : Nat) (p1 : Int32) (a_p0 : Nat → Int32) : Option ((Nat → Int32)) :=
  L_X7_closeGap_2 n_p0 p1 100 (0 : Int32) a_p0
theorem dX7_closeGap_0 : decode cX7_closeGap 0 = .ok (.iconst 0, 1) := by decide +kernel
theorem dX7_closeGap_1 : decode cX7_closeGap 1 = .ok (.istore_n 2, 1) := by decide +kernel
theorem dX7_closeGap_2 : decode cX7_closeGap 2 = .ok (.iload_n 2, 1) := by decide +kernel
theorem dX7_closeGap_3 : decode cX7_closeGap 3 = .ok (.iconst 1, 1) := by decide +kernel
theorem dX7_closeGap_4 : decode cX7_closeGap 4 = .ok (.iadd, 1) := by decide +kernel
theorem dX7_closeGap_5 : decode cX7_closeGap 5 = .ok (.aload_n 0, 1) := by decide +kernel
theorem dX7_closeGap_6 : decode cX7_closeGap 6 = .ok (.arraylength, 1) := by decide +kernel
theorem dX7_closeGap_7 : decode cX7_closeGap 7 = .ok (.if_icmp .ge 22, 3) := by decide +kernel
theorem dX7_closeGap_10 : decode cX7_closeGap 10 = .ok (.iload_n 2, 1) := by decide +kernel
theorem dX7_closeGap_11 : decode cX7_closeGap 11 = .ok (.iload_n 1, 1) := by decide +kernel
theorem dX7_closeGap_12 : decode cX7_closeGap 12 = .ok (.if_icmp .lt 11, 3) := by decide +kernel
theorem dX7_closeGap_15 : decode cX7_closeGap 15 = .ok (.aload_n 0, 1) := by decide +kernel
theorem dX7_closeGap_16 : decode cX7_closeGap 16 = .ok (.iload_n 2, 1) := by decide +kernel
theorem dX7_closeGap_17 : decode cX7_closeGap 17 = .ok (.aload_n 0, 1) := by decide +kernel
theorem dX7_closeGap_18 : decode cX7_closeGap 18 = .ok (.iload_n 2, 1) := by decide +kernel
theorem dX7_closeGap_19 : decode cX7_closeGap 19 = .ok (.iconst 1, 1) := by decide +kernel
theorem dX7_closeGap_20 : decode cX7_closeGap 20 = .ok (.iadd, 1) := by decide +kernel
theorem dX7_closeGap_21 : decode cX7_closeGap 21 = .ok (.iaload, 1) := by decide +kernel
theorem dX7_closeGap_22 : decode cX7_closeGap 22 = .ok (.iastore, 1) := by decide +kernel
theorem dX7_closeGap_23 : decode cX7_closeGap 23 = .ok (.iinc 2 1, 3) := by decide +kernel
theorem dX7_closeGap_26 : decode cX7_closeGap 26 = .ok (.goto (-24), 3) := by decide +kernel
theorem dX7_closeGap_29 : decode cX7_closeGap 29 = .ok (.return_, 1) := by decide +kernel
theorem k_X7_closeGap : cardS yX7_closeGap (Cond.code yX7_closeGap cX7_closeGap 3 none) 2 := ⟨qs_X7_closeGap, qc_X7_closeGap, qn_X7, by decide +kernel, by decide +kernel, by decide +kernel⟩
set_option maxHeartbeats 4000000 in
set_option maxRecDepth 100000 in
theorem c_X7_closeGap (l : Launch) (D : va_G) (g : Nat → ClassId) (q_p0 : Nat) (n_p0 : Nat) (p1 : Int32) (a_p0 : Nat → Int32) (o : (Nat → Int32)) (h : F_X7_closeGap n_p0 p1 a_p0 = some o) : MW l yX7_closeGap (Cond.code yX7_closeGap cX7_closeGap 3 none) { frames := 0, cells := 0, slots := 0, locals := 0 } D g [.ref q_p0, .int p1] [(q_p0, .inl (g 0, n_p0, .inl a_p0))] none [(q_p0, .inl (g 0, n_p0, .inl o))] := by
  refine z_wr_start (by decide) (Nat.le_of_ble_eq_true rfl) ?_
  intro p e s m args below meth c Q A X hr hQ hA
  refine z_lv (lv' := [(0, .ref q_p0), (1, .int p1)]) rfl ?_
  have H2 : ∀ (n : Nat) (x2 : Int32) (a_p0 : Nat → Int32), L_X7_closeGap_2 n_p0 p1  n x2 a_p0 = some o → Z p l e { frames := 0, cells := 0, slots := 0, locals := 0 } s m args below meth c Q 3 0 0 (IW D A s [(q_p0, .inl (g 0, n_p0, .inl a_p0))]) 2 [(0, .ref q_p0), (1, .int p1), (2, .int x2)] [] := by
    intro n
    induction n with
    | zero => intro x2 a_p0 h; cases h
    | succ n2 ih2 =>
      intro x2 a_p0 h
      refine z_iload_n X 2 dX7_closeGap_2 rfl rfl ?_
      refine z_iconst X (1 : Int32) dX7_closeGap_3 (by decide) ?_
      refine z_iadd X dX7_closeGap_4 ?_
      refine z_aload_n X 0 dX7_closeGap_5 rfl rfl ?_
      refine z_alen (q0 := 0) (v := Int32.ofNat n_p0) X IW_P 0 dX7_closeGap_6 rfl rfl rfl ?_
      refine z_icmp_ge X 29 dX7_closeGap_7 (by decide) h (fun _ h => ?_) (fun _ h => ?_)
      · cases h
        exact z_vretW X hQ hA hr dX7_closeGap_29
      · refine z_iload_n X 2 dX7_closeGap_10 rfl rfl ?_
        refine z_iload_n X 1 dX7_closeGap_11 rfl rfl ?_
        refine z_icmp_lt X 23 dX7_closeGap_12 (by decide) h (fun _ h => ?_) (fun _ h => ?_)
        · refine z_iinc X 2 [(2, .int (x2 + 1)), (0, .ref q_p0), (1, .int p1)] dX7_closeGap_23 rfl rfl (by decide) rfl ?_
          refine z_goto X 2 dX7_closeGap_26 (by decide) ?_
          refine z_sub (lv' := [(0, .ref q_p0), (1, .int p1), (2, .int (x2 + 1))]) [1, 2, 0] rfl ?_
          exact ih2 (x2 + 1) a_p0 h
        · refine z_aload_n X 0 dX7_closeGap_15 rfl rfl ?_
          refine z_iload_n X 2 dX7_closeGap_16 rfl rfl ?_
          refine z_aload_n X 0 dX7_closeGap_17 rfl rfl ?_
          refine z_iload_n X 2 dX7_closeGap_18 rfl rfl ?_
          refine z_iconst X (1 : Int32) dX7_closeGap_19 (by decide) ?_
          refine z_iadd X dX7_closeGap_20 ?_
          refine z_iald (q0 := 0) X IW_P dX7_closeGap_21 rfl h (fun h => ?_)
          refine z_iast (q0 := 0) (ws' := [(q_p0, .inl (g 0, n_p0, .inl (upd a_p0 x2.toNatClampNeg (a_p0 (x2 + (1 : Int32)).toNatClampNeg))))]) X dX7_closeGap_22 rfl h rfl (fun h => ?_)
          refine z_iinc X 2 [(2, .int (x2 + 1)), (0, .ref q_p0), (1, .int p1)] dX7_closeGap_23 rfl rfl (by decide) rfl ?_
          refine z_goto X 2 dX7_closeGap_26 (by decide) ?_
          refine z_sub (lv' := [(0, .ref q_p0), (1, .int p1), (2, .int (x2 + 1))]) [1, 2, 0] rfl ?_
          exact ih2 (x2 + 1) (upd a_p0 x2.toNatClampNeg (a_p0 (x2 + (1 : Int32)).toNatClampNeg)) h
  refine z_iconst X (0 : Int32) dX7_closeGap_0 (by decide) ?_
  refine z_istore_n X [(2, .int (0 : Int32)), (0, .ref q_p0), (1, .int p1)] dX7_closeGap_1 rfl (by decide) rfl ?_
  refine z_sub (lv' := [(0, .ref q_p0), (1, .int p1), (2, .int (0 : Int32))]) [1, 2, 0] rfl ?_
  exact H2 100 (0 : Int32) a_p0 h

def F_X2_remove (p1 : Int32) (f_size : Int32) (a_cells : Nat → Int32) (a_froms : Nat → Int32) (a_tos : Nat → Int32) (a_rings : Nat → Int32) (a_pranks : Nat → Int32) : Option (Int32 × Int32 × (Nat → Int32) × (Nat → Int32) × (Nat → Int32) × (Nat → Int32) × (Nat → Int32)) :=
  bnd (F_X7_closeGap 10 p1 a_cells) (fun o1 => bnd (F_X7_closeGap 10 p1 a_froms) (fun o3 => bnd (F_X7_closeGap 10 p1 a_tos) (fun o5 => bnd (F_X7_closeGap 10 p1 a_rings) (fun o7 => bnd (F_X7_closeGap 10 p1 a_pranks) (fun o9 => some ((f_size - (1 : Int32)), (f_size - (1 : Int32)), o1, o3, o5, o7, o9))))))
theorem dX2_remove_0 : decode cX2_remove 0 = .ok (.aload_n 0, 1) := by decide +kernel
theorem dX2_remove_1 : decode cX2_remove 1 = .ok (.getfield 9, 3) := by decide +kernel
theorem dX2_remove_4 : decode cX2_remove 4 = .ok (.iload_n 1, 1) := by decide +kernel
theorem dX2_remove_5 : decode cX2_remove 5 = .ok (.invokestatic 45, 3) := by decide +kernel
theorem dX2_remove_8 : decode cX2_remove 8 = .ok (.aload_n 0, 1) := by decide +kernel
theorem dX2_remove_9 : decode cX2_remove 9 = .ok (.getfield 15, 3) := by decide +kernel
theorem dX2_remove_12 : decode cX2_remove 12 = .ok (.iload_n 1, 1) := by decide +kernel
theorem dX2_remove_13 : decode cX2_remove 13 = .ok (.invokestatic 45, 3) := by decide +kernel
theorem dX2_remove_16 : decode cX2_remove 16 = .ok (.aload_n 0, 1) := by decide +kernel
theorem dX2_remove_17 : decode cX2_remove 17 = .ok (.getfield 18, 3) := by decide +kernel
theorem dX2_remove_20 : decode cX2_remove 20 = .ok (.iload_n 1, 1) := by decide +kernel
theorem dX2_remove_21 : decode cX2_remove 21 = .ok (.invokestatic 45, 3) := by decide +kernel
theorem dX2_remove_24 : decode cX2_remove 24 = .ok (.aload_n 0, 1) := by decide +kernel
theorem dX2_remove_25 : decode cX2_remove 25 = .ok (.getfield 21, 3) := by decide +kernel
theorem dX2_remove_28 : decode cX2_remove 28 = .ok (.iload_n 1, 1) := by decide +kernel
theorem dX2_remove_29 : decode cX2_remove 29 = .ok (.invokestatic 45, 3) := by decide +kernel
theorem dX2_remove_32 : decode cX2_remove 32 = .ok (.aload_n 0, 1) := by decide +kernel
theorem dX2_remove_33 : decode cX2_remove 33 = .ok (.getfield 24, 3) := by decide +kernel
theorem dX2_remove_36 : decode cX2_remove 36 = .ok (.iload_n 1, 1) := by decide +kernel
theorem dX2_remove_37 : decode cX2_remove 37 = .ok (.invokestatic 45, 3) := by decide +kernel
theorem dX2_remove_40 : decode cX2_remove 40 = .ok (.aload_n 0, 1) := by decide +kernel
theorem dX2_remove_41 : decode cX2_remove 41 = .ok (.dup, 1) := by decide +kernel
theorem dX2_remove_42 : decode cX2_remove 42 = .ok (.getfield 27, 3) := by decide +kernel
theorem dX2_remove_45 : decode cX2_remove 45 = .ok (.iconst 1, 1) := by decide +kernel
theorem dX2_remove_46 : decode cX2_remove 46 = .ok (.isub, 1) := by decide +kernel
theorem dX2_remove_47 : decode cX2_remove 47 = .ok (.putfield 27, 3) := by decide +kernel
theorem dX2_remove_50 : decode cX2_remove 50 = .ok (.aload_n 0, 1) := by decide +kernel
theorem dX2_remove_51 : decode cX2_remove 51 = .ok (.getfield 27, 3) := by decide +kernel
theorem dX2_remove_54 : decode cX2_remove 54 = .ok (.ireturn, 1) := by decide +kernel
theorem k_X2_remove : cardV yX2_remove (Cond.code yX2_remove cX2_remove 2 (some .int)) 1 := ⟨⟨qi_X2_remove, qv_X2_remove⟩, qc_X2_remove, qn_X2, by decide +kernel, by decide +kernel, by decide +kernel⟩
set_option maxHeartbeats 4000000 in
set_option maxRecDepth 100000 in
theorem c_X2_remove (l : Launch) (D : va_G) (g : Nat → ClassId) (q_this q_cells q_froms q_tos q_rings q_pranks : Nat) (p1 : Int32) (f_size : Int32) (a_cells : Nat → Int32) (a_froms : Nat → Int32) (a_tos : Nat → Int32) (a_rings : Nat → Int32) (a_pranks : Nat → Int32) (o : Int32 × Int32 × (Nat → Int32) × (Nat → Int32) × (Nat → Int32) × (Nat → Int32) × (Nat → Int32)) (h : F_X2_remove p1 f_size a_cells a_froms a_tos a_rings a_pranks = some o) : MW l yX2_remove (Cond.code yX2_remove cX2_remove 2 (some .int)) { frames := 1, cells := 0, slots := 0, locals := 22 } D g [.ref q_this, .int p1] [(q_this, .inr (3, [.int f_size, .ref q_cells, .ref q_froms, .ref q_tos, .ref q_rings, .ref q_pranks])), (q_cells, .inl (g 0, 10, .inl a_cells)), (q_froms, .inl (g 0, 10, .inl a_froms)), (q_tos, .inl (g 0, 10, .inl a_tos)), (q_rings, .inl (g 0, 10, .inl a_rings)), (q_pranks, .inl (g 0, 10, .inl a_pranks))] (some (.int o.1)) [(q_this, .inr (3, [.int o.2.1, .ref q_cells, .ref q_froms, .ref q_tos, .ref q_rings, .ref q_pranks])), (q_cells, .inl (g 0, 10, .inl o.2.2.1)), (q_froms, .inl (g 0, 10, .inl o.2.2.2.1)), (q_tos, .inl (g 0, 10, .inl o.2.2.2.2.1)), (q_rings, .inl (g 0, 10, .inl o.2.2.2.2.2.1)), (q_pranks, .inl (g 0, 10, .inl o.2.2.2.2.2.2))] := by
  refine z_wr_start (by decide) (Nat.le_of_ble_eq_true rfl) ?_
  intro p e s m args below meth c Q A X hr hQ hA
  refine z_lv (lv' := [(0, .ref q_this), (1, .int p1)]) rfl ?_
  refine z_aload_n X 0 dX2_remove_0 rfl rfl ?_
  refine z_get (q0 := 0) (k := 1) (ci := 3) X IW_P iw_X2 rfl qf_X2_X2_cells (by decide) dX2_remove_1 rfl rfl ?_
  refine z_iload_n X 1 dX2_remove_4 rfl rfl ?_
  obtain ⟨o1, e2, h⟩ := bnd_p h
  refine z_wrS (rest := []) (ws' := [(q_this, .inr (3, [.int f_size, .ref q_cells, .ref q_froms, .ref q_tos, .ref q_rings, .ref q_pranks])), (q_cells, .inl (g 0, 10, .inl o1)), (q_froms, .inl (g 0, 10, .inl a_froms)), (q_tos, .inl (g 0, 10, .inl a_tos)), (q_rings, .inl (g 0, 10, .inl a_rings)), (q_pranks, .inl (g 0, 10, .inl a_pranks))]) (wr := [(q_this, .inr (3, [.int f_size, .ref q_cells, .ref q_froms, .ref q_tos, .ref q_rings, .ref q_pranks])), (q_froms, .inl (g 0, 10, .inl a_froms)), (q_tos, .inl (g 0, 10, .inl a_tos)), (q_rings, .inl (g 0, 10, .inl a_rings)), (q_pranks, .inl (g 0, 10, .inl a_pranks))]) (as := [q_this, q_cells, q_froms, q_tos, q_rings, q_pranks]) X k_X7_closeGap (c_X7_closeGap l D g q_cells 10 p1 a_cells o1 e2) ql_X2_X7_closeGap dX2_remove_5 [1] [0, 2, 3, 4, 5] ⟨rfl, rfl, rfl, rfl, rfl, rfl, rfl, rfl⟩ rfl rfl ⟨Nat.le_of_ble_eq_true rfl, Nat.le_of_ble_eq_true rfl, rfl, rfl, Nat.le_of_ble_eq_true rfl, Nat.le_of_ble_eq_true rfl⟩ (Nat.le_of_ble_eq_true rfl) ?_
  refine z_aload_n X 0 dX2_remove_8 rfl rfl ?_
  refine z_get (q0 := 0) (k := 2) (ci := 3) X IW_P iw_X2 rfl qf_X2_X2_froms (by decide) dX2_remove_9 rfl rfl ?_
  refine z_iload_n X 1 dX2_remove_12 rfl rfl ?_
  obtain ⟨o3, e4, h⟩ := bnd_p h
  refine z_wrS (rest := []) (ws' := [(q_this, .inr (3, [.int f_size, .ref q_cells, .ref q_froms, .ref q_tos, .ref q_rings, .ref q_pranks])), (q_cells, .inl (g 0, 10, .inl o1)), (q_froms, .inl (g 0, 10, .inl o3)), (q_tos, .inl (g 0, 10, .inl a_tos)), (q_rings, .inl (g 0, 10, .inl a_rings)), (q_pranks, .inl (g 0, 10, .inl a_pranks))]) (wr := [(q_this, .inr (3, [.int f_size, .ref q_cells, .ref q_froms, .ref q_tos, .ref q_rings, .ref q_pranks])), (q_cells, .inl (g 0, 10, .inl o1)), (q_tos, .inl (g 0, 10, .inl a_tos)), (q_rings, .inl (g 0, 10, .inl a_rings)), (q_pranks, .inl (g 0, 10, .inl a_pranks))]) (as := [q_this, q_cells, q_froms, q_tos, q_rings, q_pranks]) X k_X7_closeGap (c_X7_closeGap l D g q_froms 10 p1 a_froms o3 e4) ql_X2_X7_closeGap dX2_remove_13 [2] [0, 1, 3, 4, 5] ⟨rfl, rfl, rfl, rfl, rfl, rfl, rfl, rfl⟩ rfl rfl ⟨Nat.le_of_ble_eq_true rfl, Nat.le_of_ble_eq_true rfl, rfl, rfl, Nat.le_of_ble_eq_true rfl, Nat.le_of_ble_eq_true rfl⟩ (Nat.le_of_ble_eq_true rfl) ?_
  refine z_aload_n X 0 dX2_remove_16 rfl rfl ?_
  refine z_get (q0 := 0) (k := 3) (ci := 3) X IW_P iw_X2 rfl qf_X2_X2_tos (by decide) dX2_remove_17 rfl rfl ?_
  refine z_iload_n X 1 dX2_remove_20 rfl rfl ?_
  obtain ⟨o5, e6, h⟩ := bnd_p h
  refine z_wrS (rest := []) (ws' := [(q_this, .inr (3, [.int f_size, .ref q_cells, .ref q_froms, .ref q_tos, .ref q_rings, .ref q_pranks])), (q_cells, .inl (g 0, 10, .inl o1)), (q_froms, .inl (g 0, 10, .inl o3)), (q_tos, .inl (g 0, 10, .inl o5)), (q_rings, .inl (g 0, 10, .inl a_rings)), (q_pranks, .inl (g 0, 10, .inl a_pranks))]) (wr := [(q_this, .inr (3, [.int f_size, .ref q_cells, .ref q_froms, .ref q_tos, .ref q_rings, .ref q_pranks])), (q_cells, .inl (g 0, 10, .inl o1)), (q_froms, .inl (g 0, 10, .inl o3)), (q_rings, .inl (g 0, 10, .inl a_rings)), (q_pranks, .inl (g 0, 10, .inl a_pranks))]) (as := [q_this, q_cells, q_froms, q_tos, q_rings, q_pranks]) X k_X7_closeGap (c_X7_closeGap l D g q_tos 10 p1 a_tos o5 e6) ql_X2_X7_closeGap dX2_remove_21 [3] [0, 1, 2, 4, 5] ⟨rfl, rfl, rfl, rfl, rfl, rfl, rfl, rfl⟩ rfl rfl ⟨Nat.le_of_ble_eq_true rfl, Nat.le_of_ble_eq_true rfl, rfl, rfl, Nat.le_of_ble_eq_true rfl, Nat.le_of_ble_eq_true rfl⟩ (Nat.le_of_ble_eq_true rfl) ?_
  refine z_aload_n X 0 dX2_remove_24 rfl rfl ?_
  refine z_get (q0 := 0) (k := 4) (ci := 3) X IW_P iw_X2 rfl qf_X2_X2_rings (by decide) dX2_remove_25 rfl rfl ?_
  refine z_iload_n X 1 dX2_remove_28 rfl rfl ?_
  obtain ⟨o7, e8, h⟩ := bnd_p h
  refine z_wrS (rest := []) (ws' := [(q_this, .inr (3, [.int f_size, .ref q_cells, .ref q_froms, .ref q_tos, .ref q_rings, .ref q_pranks])), (q_cells, .inl (g 0, 10, .inl o1)), (q_froms, .inl (g 0, 10, .inl o3)), (q_tos, .inl (g 0, 10, .inl o5)), (q_rings, .inl (g 0, 10, .inl o7)), (q_pranks, .inl (g 0, 10, .inl a_pranks))]) (wr := [(q_this, .inr (3, [.int f_size, .ref q_cells, .ref q_froms, .ref q_tos, .ref q_rings, .ref q_pranks])), (q_cells, .inl (g 0, 10, .inl o1)), (q_froms, .inl (g 0, 10, .inl o3)), (q_tos, .inl (g 0, 10, .inl o5)), (q_pranks, .inl (g 0, 10, .inl a_pranks))]) (as := [q_this, q_cells, q_froms, q_tos, q_rings, q_pranks]) X k_X7_closeGap (c_X7_closeGap l D g q_rings 10 p1 a_rings o7 e8) ql_X2_X7_closeGap dX2_remove_29 [4] [0, 1, 2, 3, 5] ⟨rfl, rfl, rfl, rfl, rfl, rfl, rfl, rfl⟩ rfl rfl ⟨Nat.le_of_ble_eq_true rfl, Nat.le_of_ble_eq_true rfl, rfl, rfl, Nat.le_of_ble_eq_true rfl, Nat.le_of_ble_eq_true rfl⟩ (Nat.le_of_ble_eq_true rfl) ?_
  refine z_aload_n X 0 dX2_remove_32 rfl rfl ?_
  refine z_get (q0 := 0) (k := 5) (ci := 3) X IW_P iw_X2 rfl qf_X2_X2_pranks (by decide) dX2_remove_33 rfl rfl ?_
  refine z_iload_n X 1 dX2_remove_36 rfl rfl ?_
  obtain ⟨o9, e10, h⟩ := bnd_p h
  refine z_wrS (rest := []) (ws' := [(q_this, .inr (3, [.int f_size, .ref q_cells, .ref q_froms, .ref q_tos, .ref q_rings, .ref q_pranks])), (q_cells, .inl (g 0, 10, .inl o1)), (q_froms, .inl (g 0, 10, .inl o3)), (q_tos, .inl (g 0, 10, .inl o5)), (q_rings, .inl (g 0, 10, .inl o7)), (q_pranks, .inl (g 0, 10, .inl o9))]) (wr := [(q_this, .inr (3, [.int f_size, .ref q_cells, .ref q_froms, .ref q_tos, .ref q_rings, .ref q_pranks])), (q_cells, .inl (g 0, 10, .inl o1)), (q_froms, .inl (g 0, 10, .inl o3)), (q_tos, .inl (g 0, 10, .inl o5)), (q_rings, .inl (g 0, 10, .inl o7))]) (as := [q_this, q_cells, q_froms, q_tos, q_rings, q_pranks]) X k_X7_closeGap (c_X7_closeGap l D g q_pranks 10 p1 a_pranks o9 e10) ql_X2_X7_closeGap dX2_remove_37 [5] [0, 1, 2, 3, 4] ⟨rfl, rfl, rfl, rfl, rfl, rfl, rfl, rfl⟩ rfl rfl ⟨Nat.le_of_ble_eq_true rfl, Nat.le_of_ble_eq_true rfl, rfl, rfl, Nat.le_of_ble_eq_true rfl, Nat.le_of_ble_eq_true rfl⟩ (Nat.le_of_ble_eq_true rfl) ?_
  refine z_aload_n X 0 dX2_remove_40 rfl rfl ?_
  refine z_dup X dX2_remove_41 rfl ?_
  refine z_get (q0 := 0) (k := 0) (ci := 3) X IW_P iw_X2 rfl qf_X2_X2_size (by decide) dX2_remove_42 rfl rfl ?_
  refine z_iconst X (1 : Int32) dX2_remove_45 (by decide) ?_
  refine z_isub X dX2_remove_46 ?_
  refine z_put (q0 := 0) (k := 0) (ci := 3) (ws' := [(q_this, .inr (3, [.int (f_size - (1 : Int32)), .ref q_cells, .ref q_froms, .ref q_tos, .ref q_rings, .ref q_pranks])), (q_cells, .inl (g 0, 10, .inl o1)), (q_froms, .inl (g 0, 10, .inl o3)), (q_tos, .inl (g 0, 10, .inl o5)), (q_rings, .inl (g 0, 10, .inl o7)), (q_pranks, .inl (g 0, 10, .inl o9))]) X iw_X2 tyX2_ok nmX2 rfl qf_X2_X2_size (by decide) rfl rfl dX2_remove_47 rfl rfl rfl (Nat.le_of_ble_eq_true rfl) rfl ?_
  refine z_aload_n X 0 dX2_remove_50 rfl rfl ?_
  refine z_get (q0 := 0) (k := 0) (ci := 3) X IW_P iw_X2 rfl qf_X2_X2_size (by decide) dX2_remove_51 rfl rfl ?_
  cases h
  exact z_iretW X hQ hA hr dX2_remove_54

def F_X9_judgeBlock (p1 : Int32) (f_houses_size : Int32) (a_houses_cells : Nat → Int32) (f_p2_number : Int32) (f_p2_detail : Int32) : Option (Int32 × Int32 × Int32) :=
  bnd (F_X0_isCell p1) (fun o1 => brn (o1 = 0) (some ((2 : Int32), f_p2_number, f_p2_detail)) (bnd (F_X2_on p1 f_houses_size a_houses_cells) (fun o3 => brn (o3 = ((-1) : Int32)) (some ((0 : Int32), f_p2_number, f_p2_detail)) (bnd (F_X2_on p1 f_houses_size a_houses_cells) (fun o5 => bnd (F_X6_refuse (3 : Int32) o5 f_p2_number f_p2_detail) (fun o7 => some (o7.1, o7.2.1, o7.2.2)))))))
theorem dX9_judgeBlock_0 : decode cX9_judgeBlock 0 = .ok (.iload_n 1, 1) := by decide +kernel
theorem dX9_judgeBlock_1 : decode cX9_judgeBlock 1 = .ok (.invokestatic 73, 3) := by decide +kernel
theorem dX9_judgeBlock_4 : decode cX9_judgeBlock 4 = .ok (.ifCond .ne 5, 3) := by decide +kernel
theorem dX9_judgeBlock_7 : decode cX9_judgeBlock 7 = .ok (.iconst 2, 1) := by decide +kernel
theorem dX9_judgeBlock_8 : decode cX9_judgeBlock 8 = .ok (.ireturn, 1) := by decide +kernel
theorem dX9_judgeBlock_9 : decode cX9_judgeBlock 9 = .ok (.aload_n 0, 1) := by decide +kernel
theorem dX9_judgeBlock_10 : decode cX9_judgeBlock 10 = .ok (.getfield 12, 3) := by decide +kernel
theorem dX9_judgeBlock_13 : decode cX9_judgeBlock 13 = .ok (.iload_n 1, 1) := by decide +kernel
theorem dX9_judgeBlock_14 : decode cX9_judgeBlock 14 = .ok (.invokevirtual 91, 3) := by decide +kernel
theorem dX9_judgeBlock_17 : decode cX9_judgeBlock 17 = .ok (.iconst (-1), 1) := by decide +kernel
theorem dX9_judgeBlock_18 : decode cX9_judgeBlock 18 = .ok (.if_icmp .eq 19, 3) := by decide +kernel
theorem dX9_judgeBlock_21 : decode cX9_judgeBlock 21 = .ok (.aload_n 2, 1) := by decide +kernel
theorem dX9_judgeBlock_22 : decode cX9_judgeBlock 22 = .ok (.iconst 3, 1) := by decide +kernel
theorem dX9_judgeBlock_23 : decode cX9_judgeBlock 23 = .ok (.aload_n 0, 1) := by decide +kernel
theorem dX9_judgeBlock_24 : decode cX9_judgeBlock 24 = .ok (.getfield 12, 3) := by decide +kernel
theorem dX9_judgeBlock_27 : decode cX9_judgeBlock 27 = .ok (.iload_n 1, 1) := by decide +kernel
theorem dX9_judgeBlock_28 : decode cX9_judgeBlock 28 = .ok (.invokevirtual 91, 3) := by decide +kernel
theorem dX9_judgeBlock_31 : decode cX9_judgeBlock 31 = .ok (.invokevirtual 85, 3) := by decide +kernel
theorem dX9_judgeBlock_34 : decode cX9_judgeBlock 34 = .ok (.goto 4, 3) := by decide +kernel
theorem dX9_judgeBlock_37 : decode cX9_judgeBlock 37 = .ok (.iconst 0, 1) := by decide +kernel
theorem dX9_judgeBlock_38 : decode cX9_judgeBlock 38 = .ok (.ireturn, 1) := by decide +kernel
theorem k_X9_judgeBlock : cardV yX9_judgeBlock (Cond.code yX9_judgeBlock cX9_judgeBlock 3 (some .int)) 2 := ⟨⟨qi_X9_judgeBlock, qv_X9_judgeBlock⟩, qc_X9_judgeBlock, qn_X9, by decide +kernel, by decide +kernel, by decide +kernel⟩
set_option maxHeartbeats 4000000 in
set_option maxRecDepth 100000 in
theorem c_X9_judgeBlock (l : Launch) (D : va_G) (g : Nat → ClassId) (q_this q_houses q_halls q_posts q_blocks q_kinds q_houses_cells q_houses_froms q_houses_tos q_houses_rings q_houses_pranks q_p2 : Nat) (p1 : Int32) (f_hour : Int32) (f_day : Int32) (f_prankHouse : Int32) (f_bells : Int32) (f_echoes : Int32) (f_bellPranks : Int32) (f_houses_size : Int32) (a_houses_cells : Nat → Int32) (f_p2_number : Int32) (f_p2_detail : Int32) (o : Int32 × Int32 × Int32) (h : F_X9_judgeBlock p1 f_houses_size a_houses_cells f_p2_number f_p2_detail = some o) : MW l yX9_judgeBlock (Cond.code yX9_judgeBlock cX9_judgeBlock 3 (some .int)) { frames := 2, cells := 0, slots := 0, locals := 44 } D g [.ref q_this, .int p1, .ref q_p2] [(q_this, .inr (9, [.ref q_houses, .ref q_halls, .ref q_posts, .ref q_blocks, .ref q_kinds, .int f_hour, .int f_day, .int f_prankHouse, .int f_bells, .int f_echoes, .int f_bellPranks])), (q_houses, .inr (3, [.int f_houses_size, .ref q_houses_cells, .ref q_houses_froms, .ref q_houses_tos, .ref q_houses_rings, .ref q_houses_pranks])), (q_houses_cells, .inl (g 0, 10, .inl a_houses_cells)), (q_p2, .inr (7, [.int f_p2_number, .int f_p2_detail]))] (some (.int o.1)) [(q_this, .inr (9, [.ref q_houses, .ref q_halls, .ref q_posts, .ref q_blocks, .ref q_kinds, .int f_hour, .int f_day, .int f_prankHouse, .int f_bells, .int f_echoes, .int f_bellPranks])), (q_houses, .inr (3, [.int f_houses_size, .ref q_houses_cells, .ref q_houses_froms, .ref q_houses_tos, .ref q_houses_rings, .ref q_houses_pranks])), (q_houses_cells, .inl (g 0, 10, .inl a_houses_cells)), (q_p2, .inr (7, [.int o.2.1, .int o.2.2]))] := by
  refine z_wr_start (by decide) (Nat.le_of_ble_eq_true rfl) ?_
  intro p e s m args below meth c Q A X hr hQ hA
  refine z_lv (lv' := [(0, .ref q_this), (1, .int p1), (2, .ref q_p2)]) rfl ?_
  refine z_iload_n X 1 dX9_judgeBlock_0 rfl rfl ?_
  obtain ⟨o1, e2, h⟩ := bnd_p h
  refine z_rdS (rest := []) X IW_P k_X0_isCell (c_X0_isCell l D g p1 o1 e2) ql_X9_X0_isCell dX9_judgeBlock_1 [] rfl rfl rfl ⟨Nat.le_of_ble_eq_true rfl, Nat.le_of_ble_eq_true rfl, rfl, rfl, Nat.le_of_ble_eq_true rfl, Nat.le_of_ble_eq_true rfl⟩ (Nat.le_of_ble_eq_true rfl) ?_
  refine z_if_ne X 9 dX9_judgeBlock_4 (by decide) h (fun _ h => ?_) (fun _ h => ?_)
  · refine z_iconst X (2 : Int32) dX9_judgeBlock_7 (by decide) ?_
    cases h
    exact z_iretW X hQ hA hr dX9_judgeBlock_8
  · refine z_aload_n X 0 dX9_judgeBlock_9 rfl rfl ?_
    refine z_get (q0 := 0) (k := 0) (ci := 9) X IW_P iw_X9 rfl qf_X9_X9_houses (by decide) dX9_judgeBlock_10 rfl rfl ?_
    refine z_iload_n X 1 dX9_judgeBlock_13 rfl rfl ?_
    obtain ⟨o3, e4, h⟩ := bnd_p h
    refine z_rdV (rest := []) (q0 := 1) (ci := 3) X IW_P k_X2_on (c_X2_on l D g q_houses q_houses_cells q_houses_froms q_houses_tos q_houses_rings q_houses_pranks p1 f_houses_size a_houses_cells o3 e4) ql_X9_X2_on dX9_judgeBlock_14 [1, 2] rfl rfl rfl rfl rfl rfl ⟨Nat.le_of_ble_eq_true rfl, Nat.le_of_ble_eq_true rfl, rfl, rfl, Nat.le_of_ble_eq_true rfl, Nat.le_of_ble_eq_true rfl⟩ (Nat.le_of_ble_eq_true rfl) ?_
    refine z_iconst X ((-1) : Int32) dX9_judgeBlock_17 (by decide) ?_
    refine z_icmp_eq X 37 dX9_judgeBlock_18 (by decide) h (fun _ h => ?_) (fun _ h => ?_)
    · refine z_iconst X (0 : Int32) dX9_judgeBlock_37 (by decide) ?_
      cases h
      exact z_iretW X hQ hA hr dX9_judgeBlock_38
    · refine z_aload_n X 2 dX9_judgeBlock_21 rfl rfl ?_
      refine z_iconst X (3 : Int32) dX9_judgeBlock_22 (by decide) ?_
      refine z_aload_n X 0 dX9_judgeBlock_23 rfl rfl ?_
      refine z_get (q0 := 0) (k := 0) (ci := 9) X IW_P iw_X9 rfl qf_X9_X9_houses (by decide) dX9_judgeBlock_24 rfl rfl ?_
      refine z_iload_n X 1 dX9_judgeBlock_27 rfl rfl ?_
      obtain ⟨o5, e6, h⟩ := bnd_p h
      refine z_rdV (rest := [.int (3 : Int32), .ref q_p2]) (q0 := 1) (ci := 3) X IW_P k_X2_on (c_X2_on l D g q_houses q_houses_cells q_houses_froms q_houses_tos q_houses_rings q_houses_pranks p1 f_houses_size a_houses_cells o5 e6) ql_X9_X2_on dX9_judgeBlock_28 [1, 2] rfl rfl rfl rfl rfl rfl ⟨Nat.le_of_ble_eq_true rfl, Nat.le_of_ble_eq_true rfl, rfl, rfl, Nat.le_of_ble_eq_true rfl, Nat.le_of_ble_eq_true rfl⟩ (Nat.le_of_ble_eq_true rfl) ?_
      obtain ⟨o7, e8, h⟩ := bnd_p h
      refine z_wrV (rest := []) (q0 := 3) (ci := 7) (ws' := [(q_this, .inr (9, [.ref q_houses, .ref q_halls, .ref q_posts, .ref q_blocks, .ref q_kinds, .int f_hour, .int f_day, .int f_prankHouse, .int f_bells, .int f_echoes, .int f_bellPranks])), (q_houses, .inr (3, [.int f_houses_size, .ref q_houses_cells, .ref q_houses_froms, .ref q_houses_tos, .ref q_houses_rings, .ref q_houses_pranks])), (q_houses_cells, .inl (g 0, 10, .inl a_houses_cells)), (q_p2, .inr (7, [.int o7.2.1, .int o7.2.2]))]) (wr := [(q_this, .inr (9, [.ref q_houses, .ref q_halls, .ref q_posts, .ref q_blocks, .ref q_kinds, .int f_hour, .int f_day, .int f_prankHouse, .int f_bells, .int f_echoes, .int f_bellPranks])), (q_houses, .inr (3, [.int f_houses_size, .ref q_houses_cells, .ref q_houses_froms, .ref q_houses_tos, .ref q_houses_rings, .ref q_houses_pranks])), (q_houses_cells, .inl (g 0, 10, .inl a_houses_cells))]) (as := [q_this, q_houses, q_houses_cells, q_p2]) X k_X6_refuse (c_X6_refuse l D g q_p2 (3 : Int32) o5 f_p2_number f_p2_detail o7 e8) ql_X9_X6_refuse dX9_judgeBlock_31 [3] [0, 1, 2] ⟨rfl, rfl, rfl, rfl, rfl, rfl, rfl, rfl⟩ rfl rfl rfl rfl rfl ⟨Nat.le_of_ble_eq_true rfl, Nat.le_of_ble_eq_true rfl, rfl, rfl, Nat.le_of_ble_eq_true rfl, Nat.le_of_ble_eq_true rfl⟩ (Nat.le_of_ble_eq_true rfl) ?_
      refine z_goto X 38 dX9_judgeBlock_34 (by decide) ?_
      cases h
      exact z_iretW X hQ hA hr dX9_judgeBlock_38

def J_X9_turnBlock_18 (p1 : Int32) (t0 : Int32) (t1 : Int32) (a_blocks : Nat → Int32) : Option (Int32 × (Nat → Int32)) :=
  bnd (F_X7_put 64 t1 t0 a_blocks) (fun o3 => bnd (F_X9_isBlocked p1 o3) (fun o5 => grd (o5 = 0 ∨ o5 = 1) (some (o5, o3))))

def F_X9_turnBlock (p1 : Int32) (a_blocks : Nat → Int32) : Option (Int32 × (Nat → Int32)) :=
  bnd (F_X9_isBlocked p1 a_blocks) (fun o1 => brn (o1 = 0) (J_X9_turnBlock_18 p1 (1 : Int32) p1 a_blocks) (J_X9_turnBlock_18 p1 (0 : Int32) p1 a_blocks))
theorem dX9_turnBlock_0 : decode cX9_turnBlock 0 = .ok (.aload_n 0, 1) := by decide +kernel
theorem dX9_turnBlock_1 : decode cX9_turnBlock 1 = .ok (.getfield 32, 3) := by decide +kernel
theorem dX9_turnBlock_4 : decode cX9_turnBlock 4 = .ok (.iload_n 1, 1) := by decide +kernel
theorem dX9_turnBlock_5 : decode cX9_turnBlock 5 = .ok (.aload_n 0, 1) := by decide +kernel
theorem dX9_turnBlock_6 : decode cX9_turnBlock 6 = .ok (.iload_n 1, 1) := by decide +kernel
theorem dX9_turnBlock_7 : decode cX9_turnBlock 7 = .ok (.invokevirtual 82, 3) := by decide +kernel
theorem dX9_turnBlock_10 : decode cX9_turnBlock 10 = .ok (.ifCond .eq 7, 3) := by decide +kernel
theorem dX9_turnBlock_13 : decode cX9_turnBlock 13 = .ok (.iconst 0, 1) := by decide +kernel
theorem dX9_turnBlock_14 : decode cX9_turnBlock 14 = .ok (.goto 4, 3) := by decide +kernel
theorem dX9_turnBlock_17 : decode cX9_turnBlock 17 = .ok (.iconst 1, 1) := by decide +kernel
theorem dX9_turnBlock_18 : decode cX9_turnBlock 18 = .ok (.invokestatic 135, 3) := by decide +kernel
theorem dX9_turnBlock_21 : decode cX9_turnBlock 21 = .ok (.aload_n 0, 1) := by decide +kernel
theorem dX9_turnBlock_22 : decode cX9_turnBlock 22 = .ok (.iload_n 1, 1) := by decide +kernel
theorem dX9_turnBlock_23 : decode cX9_turnBlock 23 = .ok (.invokevirtual 82, 3) := by decide +kernel
theorem dX9_turnBlock_26 : decode cX9_turnBlock 26 = .ok (.ireturn, 1) := by decide +kernel
theorem k_X9_turnBlock : cardV yX9_turnBlock (Cond.code yX9_turnBlock cX9_turnBlock 2 (some .boolean)) 1 := ⟨⟨qi_X9_turnBlock, qv_X9_turnBlock⟩, qc_X9_turnBlock, qn_X9, by decide +kernel, by decide +kernel, by decide +kernel⟩
set_option maxHeartbeats 4000000 in
set_option maxRecDepth 100000 in
theorem c_X9_turnBlock (l : Launch) (D : va_G) (g : Nat → ClassId) (q_this q_houses q_halls q_posts q_blocks q_kinds : Nat) (p1 : Int32) (f_hour : Int32) (f_day : Int32) (f_prankHouse : Int32) (f_bells : Int32) (f_echoes : Int32) (f_bellPranks : Int32) (a_blocks : Nat → Int32) (o : Int32 × (Nat → Int32)) (h : F_X9_turnBlock p1 a_blocks = some o) : MW l yX9_turnBlock (Cond.code yX9_turnBlock cX9_turnBlock 2 (some .boolean)) { frames := 2, cells := 0, slots := 0, locals := 42 } D g [.ref q_this, .int p1] [(q_this, .inr (9, [.ref q_houses, .ref q_halls, .ref q_posts, .ref q_blocks, .ref q_kinds, .int f_hour, .int f_day, .int f_prankHouse, .int f_bells, .int f_echoes, .int f_bellPranks])), (q_blocks, .inl (g 0, 64, .inl a_blocks))] (some (.int o.1)) [(q_this, .inr (9, [.ref q_houses, .ref q_halls, .ref q_posts, .ref q_blocks, .ref q_kinds, .int f_hour, .int f_day, .int f_prankHouse, .int f_bells, .int f_echoes, .int f_bellPranks])), (q_blocks, .inl (g 0, 64, .inl o.2))] := by
  refine z_wr_start (by decide) (Nat.le_of_ble_eq_true rfl) ?_
  intro p e s m args below meth c Q A X hr hQ hA
  refine z_lv (lv' := [(0, .ref q_this), (1, .int p1)]) rfl ?_
  have H18 : ∀ (t0 : Int32) (t1 : Int32) (a_blocks : Nat → Int32), J_X9_turnBlock_18 p1 t0 t1 a_blocks = some o → Z p l e { frames := 2, cells := 0, slots := 0, locals := 42 } s m args below meth c Q 2 0 0 (IW D A s [(q_this, .inr (9, [.ref q_houses, .ref q_halls, .ref q_posts, .ref q_blocks, .ref q_kinds, .int f_hour, .int f_day, .int f_prankHouse, .int f_bells, .int f_echoes, .int f_bellPranks])), (q_blocks, .inl (g 0, 64, .inl a_blocks))]) 18 [(0, .ref q_this), (1, .int p1)] [.int t0, .int t1, .ref q_blocks] := by
    intro t0 t1 a_blocks h
    obtain ⟨o3, e4, h⟩ := bnd_p h
    refine z_wrS (rest := []) (ws' := [(q_this, .inr (9, [.ref q_houses, .ref q_halls, .ref q_posts, .ref q_blocks, .ref q_kinds, .int f_hour, .int f_day, .int f_prankHouse, .int f_bells, .int f_echoes, .int f_bellPranks])), (q_blocks, .inl (g 0, 64, .inl o3))]) (wr := [(q_this, .inr (9, [.ref q_houses, .ref q_halls, .ref q_posts, .ref q_blocks, .ref q_kinds, .int f_hour, .int f_day, .int f_prankHouse, .int f_bells, .int f_echoes, .int f_bellPranks]))]) (as := [q_this, q_blocks]) X k_X7_put (c_X7_put l D g q_blocks 64 t1 t0 a_blocks o3 e4) ql_X9_X7_put dX9_turnBlock_18 [1] [0] ⟨rfl, rfl, rfl, rfl, rfl, rfl, rfl, rfl⟩ rfl rfl ⟨Nat.le_of_ble_eq_true rfl, Nat.le_of_ble_eq_true rfl, rfl, rfl, Nat.le_of_ble_eq_true rfl, Nat.le_of_ble_eq_true rfl⟩ (Nat.le_of_ble_eq_true rfl) ?_
    refine z_aload_n X 0 dX9_turnBlock_21 rfl rfl ?_
    refine z_iload_n X 1 dX9_turnBlock_22 rfl rfl ?_
    obtain ⟨o5, e6, h⟩ := bnd_p h
    refine z_rdV (rest := []) (q0 := 0) (ci := 9) X IW_P k_X9_isBlocked (c_X9_isBlocked l D g q_this q_houses q_halls q_posts q_blocks q_kinds p1 f_hour f_day f_prankHouse f_bells f_echoes f_bellPranks o3 o5 e6) ql_X9_X9_isBlocked dX9_turnBlock_23 [0, 1] rfl rfl rfl rfl rfl rfl ⟨Nat.le_of_ble_eq_true rfl, Nat.le_of_ble_eq_true rfl, rfl, rfl, Nat.le_of_ble_eq_true rfl, Nat.le_of_ble_eq_true rfl⟩ (Nat.le_of_ble_eq_true rfl) ?_
    obtain ⟨e7, h⟩ := grd_p h
    cases h
    exact z_zretW X hQ hA hr dX9_turnBlock_26 (nar_bool e7)
  refine z_aload_n X 0 dX9_turnBlock_0 rfl rfl ?_
  refine z_get (q0 := 0) (k := 3) (ci := 9) X IW_P iw_X9 rfl qf_X9_X9_blocks (by decide) dX9_turnBlock_1 rfl rfl ?_
  refine z_iload_n X 1 dX9_turnBlock_4 rfl rfl ?_
  refine z_aload_n X 0 dX9_turnBlock_5 rfl rfl ?_
  refine z_iload_n X 1 dX9_turnBlock_6 rfl rfl ?_
  obtain ⟨o1, e2, h⟩ := bnd_p h
  refine z_rdV (rest := [.int p1, .ref q_blocks]) (q0 := 0) (ci := 9) X IW_P k_X9_isBlocked (c_X9_isBlocked l D g q_this q_houses q_halls q_posts q_blocks q_kinds p1 f_hour f_day f_prankHouse f_bells f_echoes f_bellPranks a_blocks o1 e2) ql_X9_X9_isBlocked dX9_turnBlock_7 [0, 1] rfl rfl rfl rfl rfl rfl ⟨Nat.le_of_ble_eq_true rfl, Nat.le_of_ble_eq_true rfl, rfl, rfl, Nat.le_of_ble_eq_true rfl, Nat.le_of_ble_eq_true rfl⟩ (Nat.le_of_ble_eq_true rfl) ?_
  refine z_if_eq X 17 dX9_turnBlock_10 (by decide) h (fun _ h => ?_) (fun _ h => ?_)
  · refine z_iconst X (1 : Int32) dX9_turnBlock_17 (by decide) ?_
    exact H18 (1 : Int32) p1 a_blocks h
  · refine z_iconst X (0 : Int32) dX9_turnBlock_13 (by decide) ?_
    refine z_goto X 18 dX9_turnBlock_14 (by decide) ?_
    exact H18 (0 : Int32) p1 a_blocks h

def F_X11_isLane (p0 : Int32) : Option (Int32) :=
  bnd (F_X11_isWithin p0 (0 : Int32) (7 : Int32)) (fun o1 => grd (o1 = 0 ∨ o1 = 1) (some (o1)))
theorem dX11_isLane_0 : decode cX11_isLane 0 = .ok (.iload_n 0, 1) := by decide +kernel
theorem dX11_isLane_1 : decode cX11_isLane 1 = .ok (.iconst 0, 1) := by decide +kernel
theorem dX11_isLane_2 : decode cX11_isLane 2 = .ok (.bipush 7, 2) := by decide +kernel
theorem dX11_isLane_4 : decode cX11_isLane 4 = .ok (.invokestatic 120, 3) := by decide +kernel
theorem dX11_isLane_7 : decode cX11_isLane 7 = .ok (.ireturn, 1) := by decide +kernel
theorem k_X11_isLane : cardS yX11_isLane (Cond.code yX11_isLane cX11_isLane 1 (some .boolean)) 1 := ⟨qs_X11_isLane, qc_X11_isLane, qn_X11, by decide +kernel, by decide +kernel, by decide +kernel⟩
set_option maxHeartbeats 4000000 in
set_option maxRecDepth 100000 in
theorem c_X11_isLane (l : Launch) (D : va_G) (g : Nat → ClassId) (p0 : Int32) (o : Int32) (h : F_X11_isLane p0 = some o) : MR l yX11_isLane (Cond.code yX11_isLane cX11_isLane 1 (some .boolean)) { frames := 1, cells := 0, slots := 0, locals := 22 } D g [.int p0] [] (some (.int o)) := by
  refine z_rd_start (by decide) (Nat.le_of_ble_eq_true rfl) ?_
  intro p e s m args below meth c Q X hr hQ
  refine z_lv (lv' := [(0, .int p0)]) rfl ?_
  refine z_iload_n X 0 dX11_isLane_0 rfl rfl ?_
  refine z_iconst X (0 : Int32) dX11_isLane_1 (by decide) ?_
  refine z_bipush X (7 : Int32) dX11_isLane_2 (by decide) ?_
  obtain ⟨o1, e2, h⟩ := bnd_p h
  refine z_rdS (rest := []) X IR_P k_X11_isWithin (c_X11_isWithin l D g p0 (0 : Int32) (7 : Int32) o1 e2) ql_X11_X11_isWithin dX11_isLane_4 [] rfl rfl rfl ⟨Nat.le_of_ble_eq_true rfl, Nat.le_of_ble_eq_true rfl, rfl, rfl, Nat.le_of_ble_eq_true rfl, Nat.le_of_ble_eq_true rfl⟩ (Nat.le_of_ble_eq_true rfl) ?_
  obtain ⟨e3, h⟩ := grd_p h
  exact z_zretR X hQ hr dX11_isLane_7 (nar_bool e3) h

def F_X0_cellAt (p0 : Int32) (p1 : Int32) : Option (Int32) :=
  bnd (F_X11_isLane p0) (fun o1 => brn (o1 = 0) (some (((-1) : Int32))) (bnd (F_X11_isLane p1) (fun o3 => brn (o3 = 0) (some (((-1) : Int32))) (some (((8 : Int32) * p0) + p1)))))
theorem dX0_cellAt_0 : decode cX0_cellAt 0 = .ok (.iload_n 0, 1) := by decide +kernel
theorem dX0_cellAt_1 : decode cX0_cellAt 1 = .ok (.invokestatic 13, 3) := by decide +kernel
theorem dX0_cellAt_4 : decode cX0_cellAt 4 = .ok (.ifCond .eq 19, 3) := by decide +kernel
theorem dX0_cellAt_7 : decode cX0_cellAt 7 = .ok (.iload_n 1, 1) := by decide +kernel
theorem dX0_cellAt_8 : decode cX0_cellAt 8 = .ok (.invokestatic 13, 3) := by decide +kernel
theorem dX0_cellAt_11 : decode cX0_cellAt 11 = .ok (.ifCond .eq 12, 3) := by decide +kernel
theorem dX0_cellAt_14 : decode cX0_cellAt 14 = .ok (.bipush 8, 2) := by decide +kernel
theorem dX0_cellAt_16 : decode cX0_cellAt 16 = .ok (.iload_n 0, 1) := by decide +kernel
theorem dX0_cellAt_17 : decode cX0_cellAt 17 = .ok (.imul, 1) := by decide +kernel
theorem dX0_cellAt_18 : decode cX0_cellAt 18 = .ok (.iload_n 1, 1) := by decide +kernel
theorem dX0_cellAt_19 : decode cX0_cellAt 19 = .ok (.iadd, 1) := by decide +kernel
theorem dX0_cellAt_20 : decode cX0_cellAt 20 = .ok (.goto 4, 3) := by decide +kernel
theorem dX0_cellAt_23 : decode cX0_cellAt 23 = .ok (.iconst (-1), 1) := by decide +kernel
theorem dX0_cellAt_24 : decode cX0_cellAt 24 = .ok (.ireturn, 1) := by decide +kernel
theorem k_X0_cellAt : cardS yX0_cellAt (Cond.code yX0_cellAt cX0_cellAt 2 (some .int)) 2 := ⟨qs_X0_cellAt, qc_X0_cellAt, qn_X0, by decide +kernel, by decide +kernel, by decide +kernel⟩
set_option maxHeartbeats 4000000 in
set_option maxRecDepth 100000 in
theorem c_X0_cellAt (l : Launch) (D : va_G) (g : Nat → ClassId) (p0 p1 : Int32) (o : Int32) (h : F_X0_cellAt p0 p1 = some o) : MR l yX0_cellAt (Cond.code yX0_cellAt cX0_cellAt 2 (some .int)) { frames := 2, cells := 0, slots := 0, locals := 42 } D g [.int p0, .int p1] [] (some (.int o)) := by
  refine z_rd_start (by decide) (Nat.le_of_ble_eq_true rfl) ?_
  intro p e s m args below meth c Q X hr hQ
  refine z_lv (lv' := [(0, .int p0), (1, .int p1)]) rfl ?_
  refine z_iload_n X 0 dX0_cellAt_0 rfl rfl ?_
  obtain ⟨o1, e2, h⟩ := bnd_p h
  refine z_rdSN (rest := []) X IR_P k_X11_isLane (c_X11_isLane l D g p0 o1 e2) qlN_X0_X11_isLane dX0_cellAt_1 [] rfl rfl rfl ⟨Nat.le_of_ble_eq_true rfl, Nat.le_of_ble_eq_true rfl, rfl, rfl, Nat.le_of_ble_eq_true rfl, Nat.le_of_ble_eq_true rfl⟩ (Nat.le_of_ble_eq_true rfl) ?_
  refine z_if_eq X 23 dX0_cellAt_4 (by decide) h (fun _ h => ?_) (fun _ h => ?_)
  · refine z_iconst X ((-1) : Int32) dX0_cellAt_23 (by decide) ?_
    exact z_iretR X hQ hr dX0_cellAt_24 h
  · refine z_iload_n X 1 dX0_cellAt_7 rfl rfl ?_
    obtain ⟨o3, e4, h⟩ := bnd_p h
    refine z_rdSN (rest := []) X IR_P k_X11_isLane (c_X11_isLane l D g p1 o3 e4) qlN_X0_X11_isLane dX0_cellAt_8 [] rfl rfl rfl ⟨Nat.le_of_ble_eq_true rfl, Nat.le_of_ble_eq_true rfl, rfl, rfl, Nat.le_of_ble_eq_true rfl, Nat.le_of_ble_eq_true rfl⟩ (Nat.le_of_ble_eq_true rfl) ?_
    refine z_if_eq X 23 dX0_cellAt_11 (by decide) h (fun _ h => ?_) (fun _ h => ?_)
    · refine z_iconst X ((-1) : Int32) dX0_cellAt_23 (by decide) ?_
      exact z_iretR X hQ hr dX0_cellAt_24 h
    · refine z_bipush X (8 : Int32) dX0_cellAt_14 (by decide) ?_
      refine z_iload_n X 0 dX0_cellAt_16 rfl rfl ?_
      refine z_imul X dX0_cellAt_17 ?_
      refine z_iload_n X 1 dX0_cellAt_18 rfl rfl ?_
      refine z_iadd X dX0_cellAt_19 ?_
      refine z_goto X 24 dX0_cellAt_20 (by decide) ?_
      exact z_iretR X hQ hr dX0_cellAt_24 h

def F_X0_rowOf (p0 : Int32) : Option (Int32) :=
  some (p0 / (8 : Int32))
theorem dX0_rowOf_0 : decode cX0_rowOf 0 = .ok (.iload_n 0, 1) := by decide +kernel
theorem dX0_rowOf_1 : decode cX0_rowOf 1 = .ok (.bipush 8, 2) := by decide +kernel
theorem dX0_rowOf_3 : decode cX0_rowOf 3 = .ok (.idiv, 1) := by decide +kernel
theorem dX0_rowOf_4 : decode cX0_rowOf 4 = .ok (.ireturn, 1) := by decide +kernel
theorem k_X0_rowOf : cardS yX0_rowOf (Cond.code yX0_rowOf cX0_rowOf 1 (some .int)) 1 := ⟨qs_X0_rowOf, qc_X0_rowOf, qn_X0, by decide +kernel, by decide +kernel, by decide +kernel⟩
set_option maxHeartbeats 4000000 in
set_option maxRecDepth 100000 in
theorem c_X0_rowOf (l : Launch) (D : va_G) (g : Nat → ClassId) (p0 : Int32) (o : Int32) (h : F_X0_rowOf p0 = some o) : MR l yX0_rowOf (Cond.code yX0_rowOf cX0_rowOf 1 (some .int)) { frames := 0, cells := 0, slots := 0, locals := 0 } D g [.int p0] [] (some (.int o)) := by
  refine z_rd_start (by decide) (Nat.le_of_ble_eq_true rfl) ?_
  intro p e s m args below meth c Q X hr hQ
  refine z_lv (lv' := [(0, .int p0)]) rfl ?_
  refine z_iload_n X 0 dX0_rowOf_0 rfl rfl ?_
  refine z_bipush X (8 : Int32) dX0_rowOf_1 (by decide) ?_
  refine z_idiv X dX0_rowOf_3 (by decide) ?_
  exact z_iretR X hQ hr dX0_rowOf_4 h

def F_X0_columnOf (p0 : Int32) : Option (Int32) :=
  some (p0 - p0 / (8 : Int32) * (8 : Int32))
theorem dX0_columnOf_0 : decode cX0_columnOf 0 = .ok (.iload_n 0, 1) := by decide +kernel
theorem dX0_columnOf_1 : decode cX0_columnOf 1 = .ok (.bipush 8, 2) := by decide +kernel
theorem dX0_columnOf_3 : decode cX0_columnOf 3 = .ok (.irem, 1) := by decide +kernel
theorem dX0_columnOf_4 : decode cX0_columnOf 4 = .ok (.ireturn, 1) := by decide +kernel
theorem k_X0_columnOf : cardS yX0_columnOf (Cond.code yX0_columnOf cX0_columnOf 1 (some .int)) 1 := ⟨qs_X0_columnOf, qc_X0_columnOf, qn_X0, by decide +kernel, by decide +kernel, by decide +kernel⟩
set_option maxHeartbeats 4000000 in
set_option maxRecDepth 100000 in
theorem c_X0_columnOf (l : Launch) (D : va_G) (g : Nat → ClassId) (p0 : Int32) (o : Int32) (h : F_X0_columnOf p0 = some o) : MR l yX0_columnOf (Cond.code yX0_columnOf cX0_columnOf 1 (some .int)) { frames := 0, cells := 0, slots := 0, locals := 0 } D g [.int p0] [] (some (.int o)) := by
  refine z_rd_start (by decide) (Nat.le_of_ble_eq_true rfl) ?_
  intro p e s m args below meth c Q X hr hQ
  refine z_lv (lv' := [(0, .int p0)]) rfl ?_
  refine z_iload_n X 0 dX0_columnOf_0 rfl rfl ?_
  refine z_bipush X (8 : Int32) dX0_columnOf_1 (by decide) ?_
  refine z_irem X dX0_columnOf_3 (by decide) ?_
  exact z_iretR X hQ hr dX0_columnOf_4 h

def J_X1_around_30 (p1 : Int32) (f_size : Int32) (a_rows : Nat → Int32) (a_firsts : Nat → Int32) (a_lasts : Nat → Int32) (r2 : Int32 → Option (Int32)) (t0 : Int32) (x2 : Int32) : Option (Int32) :=
  brn (t0 = 0) (r2 (x2 + 1)) (bnd (F_X0_columnOf p1) (fun o5 => bnd (F_X7_at 4 x2 a_firsts) (fun o7 => bnd (F_X7_at 4 x2 a_lasts) (fun o9 => bnd (F_X11_isWithin o5 o7 o9) (fun o11 => brn (o11 = 0) (r2 (x2 + 1)) (some (x2)))))))

def L_X1_around_2 (p1 : Int32) (f_size : Int32) (a_rows : Nat → Int32) (a_firsts : Nat → Int32) (a_lasts : Nat → Int32) : Nat → Int32 → Option (Int32)
  | 0, _ => none
  | _n + 1, x2 =>
    brn (f_size ≤ x2) (some (((-1) : Int32))) (bnd (F_X7_at 4 x2 a_rows) (fun o1 => bnd (F_X0_rowOf p1) (fun o3 => brn (o1 = o3) (J_X1_around_30 p1 f_size a_rows a_firsts a_lasts (L_X1_around_2 p1 f_size a_rows a_firsts a_lasts _n) (1 : Int32) x2) (J_X1_around_30 p1 f_size a_rows a_firsts a_lasts (L_X1_around_2 p1 f_size a_rows a_firsts a_lasts _n) (0 : Int32) x2))))

def F_X1_around (p1 : Int32) (f_size : Int32) (a_rows : Nat → Int32) (a_firsts : Nat → Int32) (a_lasts : Nat → Int32) : Option (Int32) :=
  L_X1_around_2 p1 f_size a_rows a_firsts a_lasts 100 (0 : Int32)
theorem dX1_around_0 : decode cX1_around 0 = .ok (.iconst 0, 1) := by decide +kernel
theorem dX1_around_1 : decode cX1_around 1 = .ok (.istore_n 2, 1) := by decide +kernel
theorem dX1_around_2 : decode cX1_around 2 = .ok (.iload_n 2, 1) := by decide +kernel
theorem dX1_around_3 : decode cX1_around 3 = .ok (.aload_n 0, 1) := by decide +kernel
theorem dX1_around_4 : decode cX1_around 4 = .ok (.getfield 21, 3) := by decide +kernel
theorem dX1_around_7 : decode cX1_around 7 = .ok (.if_icmp .ge 62, 3) := by decide +kernel
theorem dX1_around_10 : decode cX1_around 10 = .ok (.aload_n 0, 1) := by decide +kernel
theorem dX1_around_11 : decode cX1_around 11 = .ok (.getfield 9, 3) := by decide +kernel
theorem dX1_around_14 : decode cX1_around 14 = .ok (.iload_n 2, 1) := by decide +kernel
theorem dX1_around_15 : decode cX1_around 15 = .ok (.invokestatic 25, 3) := by decide +kernel
theorem dX1_around_18 : decode cX1_around 18 = .ok (.iload_n 1, 1) := by decide +kernel
theorem dX1_around_19 : decode cX1_around 19 = .ok (.invokestatic 31, 3) := by decide +kernel
theorem dX1_around_22 : decode cX1_around 22 = .ok (.if_icmp .ne 7, 3) := by decide +kernel
theorem dX1_around_25 : decode cX1_around 25 = .ok (.iconst 1, 1) := by decide +kernel
theorem dX1_around_26 : decode cX1_around 26 = .ok (.goto 4, 3) := by decide +kernel
theorem dX1_around_29 : decode cX1_around 29 = .ok (.iconst 0, 1) := by decide +kernel
theorem dX1_around_30 : decode cX1_around 30 = .ok (.istore_n 3, 1) := by decide +kernel
theorem dX1_around_31 : decode cX1_around 31 = .ok (.iload_n 3, 1) := by decide +kernel
theorem dX1_around_32 : decode cX1_around 32 = .ok (.ifCond .eq 31, 3) := by decide +kernel
theorem dX1_around_35 : decode cX1_around 35 = .ok (.iload_n 1, 1) := by decide +kernel
theorem dX1_around_36 : decode cX1_around 36 = .ok (.invokestatic 37, 3) := by decide +kernel
theorem dX1_around_39 : decode cX1_around 39 = .ok (.aload_n 0, 1) := by decide +kernel
theorem dX1_around_40 : decode cX1_around 40 = .ok (.getfield 15, 3) := by decide +kernel
theorem dX1_around_43 : decode cX1_around 43 = .ok (.iload_n 2, 1) := by decide +kernel
theorem dX1_around_44 : decode cX1_around 44 = .ok (.invokestatic 25, 3) := by decide +kernel
theorem dX1_around_47 : decode cX1_around 47 = .ok (.aload_n 0, 1) := by decide +kernel
theorem dX1_around_48 : decode cX1_around 48 = .ok (.getfield 18, 3) := by decide +kernel
theorem dX1_around_51 : decode cX1_around 51 = .ok (.iload_n 2, 1) := by decide +kernel
theorem dX1_around_52 : decode cX1_around 52 = .ok (.invokestatic 25, 3) := by decide +kernel
theorem dX1_around_55 : decode cX1_around 55 = .ok (.invokestatic 40, 3) := by decide +kernel
theorem dX1_around_58 : decode cX1_around 58 = .ok (.ifCond .eq 5, 3) := by decide +kernel
theorem dX1_around_61 : decode cX1_around 61 = .ok (.iload_n 2, 1) := by decide +kernel
theorem dX1_around_62 : decode cX1_around 62 = .ok (.ireturn, 1) := by decide +kernel
theorem dX1_around_63 : decode cX1_around 63 = .ok (.iinc 2 1, 3) := by decide +kernel
theorem dX1_around_66 : decode cX1_around 66 = .ok (.goto (-64), 3) := by decide +kernel
theorem dX1_around_69 : decode cX1_around 69 = .ok (.iconst (-1), 1) := by decide +kernel
theorem dX1_around_70 : decode cX1_around 70 = .ok (.ireturn, 1) := by decide +kernel
theorem k_X1_around : cardV yX1_around (Cond.code yX1_around cX1_around 4 (some .int)) 1 := ⟨⟨qi_X1_around, qv_X1_around⟩, qc_X1_around, qn_X1, by decide +kernel, by decide +kernel, by decide +kernel⟩
set_option maxHeartbeats 4000000 in
set_option maxRecDepth 100000 in
theorem c_X1_around (l : Launch) (D : va_G) (g : Nat → ClassId) (q_this q_rows q_firsts q_lasts : Nat) (p1 : Int32) (f_size : Int32) (a_rows : Nat → Int32) (a_firsts : Nat → Int32) (a_lasts : Nat → Int32) (o : Int32) (h : F_X1_around p1 f_size a_rows a_firsts a_lasts = some o) : MR l yX1_around (Cond.code yX1_around cX1_around 4 (some .int)) { frames := 1, cells := 0, slots := 0, locals := 22 } D g [.ref q_this, .int p1] [(q_this, .inr (2, [.int f_size, .ref q_rows, .ref q_firsts, .ref q_lasts])), (q_rows, .inl (g 0, 4, .inl a_rows)), (q_firsts, .inl (g 0, 4, .inl a_firsts)), (q_lasts, .inl (g 0, 4, .inl a_lasts))] (some (.int o)) := by
  refine z_rd_start (by decide) (Nat.le_of_ble_eq_true rfl) ?_
  intro p e s m args below meth c Q X hr hQ
  refine z_lv (lv' := [(0, .ref q_this), (1, .int p1)]) rfl ?_
  have H2 : ∀ (n : Nat) (x2 : Int32), L_X1_around_2 p1 f_size a_rows a_firsts a_lasts  n x2 = some o → Z p l e { frames := 1, cells := 0, slots := 0, locals := 22 } s m args below meth c Q 4 0 0 (IR D [(q_this, .inr (2, [.int f_size, .ref q_rows, .ref q_firsts, .ref q_lasts])), (q_rows, .inl (g 0, 4, .inl a_rows)), (q_firsts, .inl (g 0, 4, .inl a_firsts)), (q_lasts, .inl (g 0, 4, .inl a_lasts))] s) 2 [(0, .ref q_this), (1, .int p1), (2, .int x2)] [] := by
    intro n
    induction n with
    | zero => intro x2 h; cases h
    | succ n2 ih2 =>
      intro x2 h
      have H30 : ∀ (t0 : Int32) (x2 : Int32), J_X1_around_30 p1 f_size a_rows a_firsts a_lasts (L_X1_around_2 p1 f_size a_rows a_firsts a_lasts n2) t0 x2 = some o → Z p l e { frames := 1, cells := 0, slots := 0, locals := 22 } s m args below meth c Q 4 0 0 (IR D [(q_this, .inr (2, [.int f_size, .ref q_rows, .ref q_firsts, .ref q_lasts])), (q_rows, .inl (g 0, 4, .inl a_rows)), (q_firsts, .inl (g 0, 4, .inl a_firsts)), (q_lasts, .inl (g 0, 4, .inl a_lasts))] s) 30 [(0, .ref q_this), (1, .int p1), (2, .int x2)] [.int t0] := by
        intro t0 x2 h
        refine z_istore_n X [(3, .int t0), (0, .ref q_this), (1, .int p1), (2, .int x2)] dX1_around_30 rfl (by decide) rfl ?_
        refine z_iload_n X 0 dX1_around_31 rfl rfl ?_
        refine z_if_eq X 63 dX1_around_32 (by decide) h (fun _ h => ?_) (fun _ h => ?_)
        · refine z_iinc X 3 [(2, .int (x2 + 1)), (3, .int t0), (0, .ref q_this), (1, .int p1)] dX1_around_63 rfl rfl (by decide) rfl ?_
          refine z_goto X 2 dX1_around_66 (by decide) ?_
          refine z_sub (lv' := [(0, .ref q_this), (1, .int p1), (2, .int (x2 + 1))]) [2, 3, 0] rfl ?_
          exact ih2 (x2 + 1) h
        · refine z_iload_n X 2 dX1_around_35 rfl rfl ?_
          obtain ⟨o5, e6, h⟩ := bnd_p h
          refine z_rdS (rest := []) X IR_P k_X0_columnOf (c_X0_columnOf l D g p1 o5 e6) ql_X1_X0_columnOf dX1_around_36 [] rfl rfl rfl ⟨Nat.le_of_ble_eq_true rfl, Nat.le_of_ble_eq_true rfl, rfl, rfl, Nat.le_of_ble_eq_true rfl, Nat.le_of_ble_eq_true rfl⟩ (Nat.le_of_ble_eq_true rfl) ?_
          refine z_aload_n X 1 dX1_around_39 rfl rfl ?_
          refine z_get (q0 := 0) (k := 2) (ci := 2) X IR_P iw_X1 rfl qf_X1_X1_firsts (by decide) dX1_around_40 rfl rfl ?_
          refine z_iload_n X 3 dX1_around_43 rfl rfl ?_
          obtain ⟨o7, e8, h⟩ := bnd_p h
          refine z_rdS (rest := [.int o5]) X IR_P k_X7_at (c_X7_at l D g q_firsts 4 x2 a_firsts o7 e8) ql_X1_X7_at dX1_around_44 [2] rfl rfl rfl ⟨Nat.le_of_ble_eq_true rfl, Nat.le_of_ble_eq_true rfl, rfl, rfl, Nat.le_of_ble_eq_true rfl, Nat.le_of_ble_eq_true rfl⟩ (Nat.le_of_ble_eq_true rfl) ?_
          refine z_aload_n X 1 dX1_around_47 rfl rfl ?_
          refine z_get (q0 := 0) (k := 3) (ci := 2) X IR_P iw_X1 rfl qf_X1_X1_lasts (by decide) dX1_around_48 rfl rfl ?_
          refine z_iload_n X 3 dX1_around_51 rfl rfl ?_
          obtain ⟨o9, e10, h⟩ := bnd_p h
          refine z_rdS (rest := [.int o7, .int o5]) X IR_P k_X7_at (c_X7_at l D g q_lasts 4 x2 a_lasts o9 e10) ql_X1_X7_at dX1_around_52 [3] rfl rfl rfl ⟨Nat.le_of_ble_eq_true rfl, Nat.le_of_ble_eq_true rfl, rfl, rfl, Nat.le_of_ble_eq_true rfl, Nat.le_of_ble_eq_true rfl⟩ (Nat.le_of_ble_eq_true rfl) ?_
          obtain ⟨o11, e12, h⟩ := bnd_p h
          refine z_rdSN (rest := []) X IR_P k_X11_isWithin (c_X11_isWithin l D g o5 o7 o9 o11 e12) qlN_X1_X11_isWithin dX1_around_55 [] rfl rfl rfl ⟨Nat.le_of_ble_eq_true rfl, Nat.le_of_ble_eq_true rfl, rfl, rfl, Nat.le_of_ble_eq_true rfl, Nat.le_of_ble_eq_true rfl⟩ (Nat.le_of_ble_eq_true rfl) ?_
          refine z_if_eq X 63 dX1_around_58 (by decide) h (fun _ h => ?_) (fun _ h => ?_)
          · refine z_iinc X 3 [(2, .int (x2 + 1)), (3, .int t0), (0, .ref q_this), (1, .int p1)] dX1_around_63 rfl rfl (by decide) rfl ?_
            refine z_goto X 2 dX1_around_66 (by decide) ?_
            refine z_sub (lv' := [(0, .ref q_this), (1, .int p1), (2, .int (x2 + 1))]) [2, 3, 0] rfl ?_
            exact ih2 (x2 + 1) h
          · refine z_iload_n X 3 dX1_around_61 rfl rfl ?_
            exact z_iretR X hQ hr dX1_around_62 h
      refine z_iload_n X 2 dX1_around_2 rfl rfl ?_
      refine z_aload_n X 0 dX1_around_3 rfl rfl ?_
      refine z_get (q0 := 0) (k := 0) (ci := 2) X IR_P iw_X1 rfl qf_X1_X1_size (by decide) dX1_around_4 rfl rfl ?_
      refine z_icmp_ge X 69 dX1_around_7 (by decide) h (fun _ h => ?_) (fun _ h => ?_)
      · refine z_iconst X ((-1) : Int32) dX1_around_69 (by decide) ?_
        exact z_iretR X hQ hr dX1_around_70 h
      · refine z_aload_n X 0 dX1_around_10 rfl rfl ?_
        refine z_get (q0 := 0) (k := 1) (ci := 2) X IR_P iw_X1 rfl qf_X1_X1_rows (by decide) dX1_around_11 rfl rfl ?_
        refine z_iload_n X 2 dX1_around_14 rfl rfl ?_
        obtain ⟨o1, e2, h⟩ := bnd_p h
        refine z_rdS (rest := []) X IR_P k_X7_at (c_X7_at l D g q_rows 4 x2 a_rows o1 e2) ql_X1_X7_at dX1_around_15 [1] rfl rfl rfl ⟨Nat.le_of_ble_eq_true rfl, Nat.le_of_ble_eq_true rfl, rfl, rfl, Nat.le_of_ble_eq_true rfl, Nat.le_of_ble_eq_true rfl⟩ (Nat.le_of_ble_eq_true rfl) ?_
        refine z_iload_n X 1 dX1_around_18 rfl rfl ?_
        obtain ⟨o3, e4, h⟩ := bnd_p h
        refine z_rdS (rest := [.int o1]) X IR_P k_X0_rowOf (c_X0_rowOf l D g p1 o3 e4) ql_X1_X0_rowOf dX1_around_19 [] rfl rfl rfl ⟨Nat.le_of_ble_eq_true rfl, Nat.le_of_ble_eq_true rfl, rfl, rfl, Nat.le_of_ble_eq_true rfl, Nat.le_of_ble_eq_true rfl⟩ (Nat.le_of_ble_eq_true rfl) ?_
        refine z_icmp_ne X 29 dX1_around_22 (by decide) h (fun _ h => ?_) (fun _ h => ?_)
        · refine z_iconst X (1 : Int32) dX1_around_25 (by decide) ?_
          refine z_goto X 30 dX1_around_26 (by decide) ?_
          exact H30 (1 : Int32) x2 h
        · refine z_iconst X (0 : Int32) dX1_around_29 (by decide) ?_
          exact H30 (0 : Int32) x2 h
  refine z_iconst X (0 : Int32) dX1_around_0 (by decide) ?_
  refine z_istore_n X [(2, .int (0 : Int32)), (0, .ref q_this), (1, .int p1)] dX1_around_1 rfl (by decide) rfl ?_
  refine z_sub (lv' := [(0, .ref q_this), (1, .int p1), (2, .int (0 : Int32))]) [1, 2, 0] rfl ?_
  exact H2 100 (0 : Int32) h

def F_X1_isFull (f_size : Int32) : Option (Int32) :=
  brn (f_size < (4 : Int32)) (some ((0 : Int32))) (some ((1 : Int32)))
theorem dX1_isFull_0 : decode cX1_isFull 0 = .ok (.aload_n 0, 1) := by decide +kernel
theorem dX1_isFull_1 : decode cX1_isFull 1 = .ok (.getfield 21, 3) := by decide +kernel
theorem dX1_isFull_4 : decode cX1_isFull 4 = .ok (.iconst 4, 1) := by decide +kernel
theorem dX1_isFull_5 : decode cX1_isFull 5 = .ok (.if_icmp .lt 7, 3) := by decide +kernel
theorem dX1_isFull_8 : decode cX1_isFull 8 = .ok (.iconst 1, 1) := by decide +kernel
theorem dX1_isFull_9 : decode cX1_isFull 9 = .ok (.goto 4, 3) := by decide +kernel
theorem dX1_isFull_12 : decode cX1_isFull 12 = .ok (.iconst 0, 1) := by decide +kernel
theorem dX1_isFull_13 : decode cX1_isFull 13 = .ok (.ireturn, 1) := by decide +kernel
theorem k_X1_isFull : cardV yX1_isFull (Cond.code yX1_isFull cX1_isFull 1 (some .boolean)) 0 := ⟨⟨qi_X1_isFull, qv_X1_isFull⟩, qc_X1_isFull, qn_X1, by decide +kernel, by decide +kernel, by decide +kernel⟩
set_option maxHeartbeats 4000000 in
set_option maxRecDepth 100000 in
theorem c_X1_isFull (l : Launch) (D : va_G) (g : Nat → ClassId) (q_this q_rows q_firsts q_lasts : Nat) (f_size : Int32) (o : Int32) (h : F_X1_isFull f_size = some o) : MR l yX1_isFull (Cond.code yX1_isFull cX1_isFull 1 (some .boolean)) { frames := 0, cells := 0, slots := 0, locals := 0 } D g [.ref q_this] [(q_this, .inr (2, [.int f_size, .ref q_rows, .ref q_firsts, .ref q_lasts]))] (some (.int o)) := by
  refine z_rd_start (by decide) (Nat.le_of_ble_eq_true rfl) ?_
  intro p e s m args below meth c Q X hr hQ
  refine z_lv (lv' := [(0, .ref q_this)]) rfl ?_
  refine z_aload_n X 0 dX1_isFull_0 rfl rfl ?_
  refine z_get (q0 := 0) (k := 0) (ci := 2) X IR_P iw_X1 rfl qf_X1_X1_size (by decide) dX1_isFull_1 rfl rfl ?_
  refine z_iconst X (4 : Int32) dX1_isFull_4 (by decide) ?_
  refine z_icmp_lt X 12 dX1_isFull_5 (by decide) h (fun _ h => ?_) (fun _ h => ?_)
  · refine z_iconst X (0 : Int32) dX1_isFull_12 (by decide) ?_
    exact z_zretR X hQ hr dX1_isFull_13 rfl h
  · refine z_iconst X (1 : Int32) dX1_isFull_8 (by decide) ?_
    refine z_goto X 13 dX1_isFull_9 (by decide) ?_
    exact z_zretR X hQ hr dX1_isFull_13 rfl h

def L_X9_judgeHall_31 (p1 : Int32) (p2 : Int32) (p3 : Int32) (f_halls_size : Int32) (a_halls_rows : Nat → Int32) (a_halls_firsts : Nat → Int32) (a_halls_lasts : Nat → Int32) : Nat → Int32 → (Int32) → (Int32) → Option (Int32 × Int32 × Int32)
  | 0, _, _, _ => none
  | _n + 1, x5, f_p4_number, f_p4_detail =>
    brn (p3 < x5) (bnd (F_X1_isFull f_halls_size) (fun o7 => brn (o7 = 0) (some ((0 : Int32), f_p4_number, f_p4_detail)) (bnd (F_X6_refuse (1 : Int32) (4 : Int32) f_p4_number f_p4_detail) (fun o9 => some (o9.1, o9.2.1, o9.2.2))))) (bnd (F_X0_cellAt p1 x5) (fun o11 => bnd (F_X1_around o11 f_halls_size a_halls_rows a_halls_firsts a_halls_lasts) (fun o13 => brn (o13 = ((-1) : Int32)) (L_X9_judgeHall_31 p1 p2 p3 f_halls_size a_halls_rows a_halls_firsts a_halls_lasts _n (x5 + 1) f_p4_number f_p4_detail) (bnd (F_X6_refuse (4 : Int32) o11 f_p4_number f_p4_detail) (fun o15 => some (o15.1, o15.2.1, o15.2.2))))))

def F_X9_judgeHall (p1 : Int32) (p2 : Int32) (p3 : Int32) (f_halls_size : Int32) (a_halls_rows : Nat → Int32) (a_halls_firsts : Nat → Int32) (a_halls_lasts : Nat → Int32) (f_p4_number : Int32) (f_p4_detail : Int32) : Option (Int32 × Int32 × Int32) :=
  bnd (F_X11_isLane p1) (fun o1 => brn (o1 = 0) (some ((2 : Int32), f_p4_number, f_p4_detail)) (bnd (F_X11_isLane p2) (fun o3 => brn (o3 = 0) (some ((2 : Int32), f_p4_number, f_p4_detail)) (bnd (F_X11_isLane p3) (fun o5 => brn (o5 = 0) (some ((2 : Int32), f_p4_number, f_p4_detail)) (brn (p2 ≤ p3) (L_X9_judgeHall_31 p1 p2 p3 f_halls_size a_halls_rows a_halls_firsts a_halls_lasts 100 p2 f_p4_number f_p4_detail) (some ((2 : Int32), f_p4_number, f_p4_detail))))))))
theorem dX9_judgeHall_0 : decode cX9_judgeHall 0 = .ok (.iload_n 1, 1) := by decide +kernel
theorem dX9_judgeHall_1 : decode cX9_judgeHall 1 = .ok (.invokestatic 99, 3) := by decide +kernel
theorem dX9_judgeHall_4 : decode cX9_judgeHall 4 = .ok (.ifCond .eq 22, 3) := by decide +kernel
theorem dX9_judgeHall_7 : decode cX9_judgeHall 7 = .ok (.iload_n 2, 1) := by decide +kernel
theorem dX9_judgeHall_8 : decode cX9_judgeHall 8 = .ok (.invokestatic 99, 3) := by decide +kernel
theorem dX9_judgeHall_11 : decode cX9_judgeHall 11 = .ok (.ifCond .eq 15, 3) := by decide +kernel
theorem dX9_judgeHall_14 : decode cX9_judgeHall 14 = .ok (.iload_n 3, 1) := by decide +kernel
theorem dX9_judgeHall_15 : decode cX9_judgeHall 15 = .ok (.invokestatic 99, 3) := by decide +kernel
theorem dX9_judgeHall_18 : decode cX9_judgeHall 18 = .ok (.ifCond .eq 8, 3) := by decide +kernel
theorem dX9_judgeHall_21 : decode cX9_judgeHall 21 = .ok (.iload_n 3, 1) := by decide +kernel
theorem dX9_judgeHall_22 : decode cX9_judgeHall 22 = .ok (.iload_n 2, 1) := by decide +kernel
theorem dX9_judgeHall_23 : decode cX9_judgeHall 23 = .ok (.if_icmp .ge 5, 3) := by decide +kernel
theorem dX9_judgeHall_26 : decode cX9_judgeHall 26 = .ok (.iconst 2, 1) := by decide +kernel
theorem dX9_judgeHall_27 : decode cX9_judgeHall 27 = .ok (.ireturn, 1) := by decide +kernel
theorem dX9_judgeHall_28 : decode cX9_judgeHall 28 = .ok (.iload_n 2, 1) := by decide +kernel
theorem dX9_judgeHall_29 : decode cX9_judgeHall 29 = .ok (.istore 5, 2) := by decide +kernel
theorem dX9_judgeHall_31 : decode cX9_judgeHall 31 = .ok (.iload 5, 2) := by decide +kernel
theorem dX9_judgeHall_33 : decode cX9_judgeHall 33 = .ok (.iload_n 3, 1) := by decide +kernel
theorem dX9_judgeHall_34 : decode cX9_judgeHall 34 = .ok (.if_icmp .gt 39, 3) := by decide +kernel
theorem dX9_judgeHall_37 : decode cX9_judgeHall 37 = .ok (.iload_n 1, 1) := by decide +kernel
theorem dX9_judgeHall_38 : decode cX9_judgeHall 38 = .ok (.iload 5, 2) := by decide +kernel
theorem dX9_judgeHall_40 : decode cX9_judgeHall 40 = .ok (.invokestatic 102, 3) := by decide +kernel
theorem dX9_judgeHall_43 : decode cX9_judgeHall 43 = .ok (.istore 6, 2) := by decide +kernel
theorem dX9_judgeHall_45 : decode cX9_judgeHall 45 = .ok (.aload_n 0, 1) := by decide +kernel
theorem dX9_judgeHall_46 : decode cX9_judgeHall 46 = .ok (.getfield 21, 3) := by decide +kernel
theorem dX9_judgeHall_49 : decode cX9_judgeHall 49 = .ok (.iload 6, 2) := by decide +kernel
theorem dX9_judgeHall_51 : decode cX9_judgeHall 51 = .ok (.invokevirtual 105, 3) := by decide +kernel
theorem dX9_judgeHall_54 : decode cX9_judgeHall 54 = .ok (.iconst (-1), 1) := by decide +kernel
theorem dX9_judgeHall_55 : decode cX9_judgeHall 55 = .ok (.if_icmp .eq 12, 3) := by decide +kernel
theorem dX9_judgeHall_58 : decode cX9_judgeHall 58 = .ok (.aload 4, 2) := by decide +kernel
theorem dX9_judgeHall_60 : decode cX9_judgeHall 60 = .ok (.iconst 4, 1) := by decide +kernel
theorem dX9_judgeHall_61 : decode cX9_judgeHall 61 = .ok (.iload 6, 2) := by decide +kernel
theorem dX9_judgeHall_63 : decode cX9_judgeHall 63 = .ok (.invokevirtual 85, 3) := by decide +kernel
theorem dX9_judgeHall_66 : decode cX9_judgeHall 66 = .ok (.ireturn, 1) := by decide +kernel
theorem dX9_judgeHall_67 : decode cX9_judgeHall 67 = .ok (.iinc 5 1, 3) := by decide +kernel
theorem dX9_judgeHall_70 : decode cX9_judgeHall 70 = .ok (.goto (-39), 3) := by decide +kernel
theorem dX9_judgeHall_73 : decode cX9_judgeHall 73 = .ok (.aload_n 0, 1) := by decide +kernel
theorem dX9_judgeHall_74 : decode cX9_judgeHall 74 = .ok (.getfield 21, 3) := by decide +kernel
theorem dX9_judgeHall_77 : decode cX9_judgeHall 77 = .ok (.invokevirtual 108, 3) := by decide +kernel
theorem dX9_judgeHall_80 : decode cX9_judgeHall 80 = .ok (.ifCond .eq 13, 3) := by decide +kernel
theorem dX9_judgeHall_83 : decode cX9_judgeHall 83 = .ok (.aload 4, 2) := by decide +kernel
theorem dX9_judgeHall_85 : decode cX9_judgeHall 85 = .ok (.iconst 1, 1) := by decide +kernel
theorem dX9_judgeHall_86 : decode cX9_judgeHall 86 = .ok (.iconst 4, 1) := by decide +kernel
theorem dX9_judgeHall_87 : decode cX9_judgeHall 87 = .ok (.invokevirtual 85, 3) := by decide +kernel
theorem dX9_judgeHall_90 : decode cX9_judgeHall 90 = .ok (.goto 4, 3) := by decide +kernel
theorem dX9_judgeHall_93 : decode cX9_judgeHall 93 = .ok (.iconst 0, 1) := by decide +kernel
theorem dX9_judgeHall_94 : decode cX9_judgeHall 94 = .ok (.ireturn, 1) := by decide +kernel
theorem k_X9_judgeHall : cardV yX9_judgeHall (Cond.code yX9_judgeHall cX9_judgeHall 7 (some .int)) 4 := ⟨⟨qi_X9_judgeHall, qv_X9_judgeHall⟩, qc_X9_judgeHall, qn_X9, by decide +kernel, by decide +kernel, by decide +kernel⟩
set_option maxHeartbeats 4000000 in
set_option maxRecDepth 100000 in
theorem c_X9_judgeHall (l : Launch) (D : va_G) (g : Nat → ClassId) (q_this q_houses q_halls q_posts q_blocks q_kinds q_halls_rows q_halls_firsts q_halls_lasts q_p4 : Nat) (p1 p2 p3 : Int32) (f_hour : Int32) (f_day : Int32) (f_prankHouse : Int32) (f_bells : Int32) (f_echoes : Int32) (f_bellPranks : Int32) (f_halls_size : Int32) (a_halls_rows : Nat → Int32) (a_halls_firsts : Nat → Int32) (a_halls_lasts : Nat → Int32) (f_p4_number : Int32) (f_p4_detail : Int32) (o : Int32 × Int32 × Int32) (h : F_X9_judgeHall p1 p2 p3 f_halls_size a_halls_rows a_halls_firsts a_halls_lasts f_p4_number f_p4_detail = some o) : MW l yX9_judgeHall (Cond.code yX9_judgeHall cX9_judgeHall 7 (some .int)) { frames := 3, cells := 0, slots := 0, locals := 63 } D g [.ref q_this, .int p1, .int p2, .int p3, .ref q_p4] [(q_this, .inr (9, [.ref q_houses, .ref q_halls, .ref q_posts, .ref q_blocks, .ref q_kinds, .int f_hour, .int f_day, .int f_prankHouse, .int f_bells, .int f_echoes, .int f_bellPranks])), (q_halls, .inr (2, [.int f_halls_size, .ref q_halls_rows, .ref q_halls_firsts, .ref q_halls_lasts])), (q_halls_rows, .inl (g 0, 4, .inl a_halls_rows)), (q_halls_firsts, .inl (g 0, 4, .inl a_halls_firsts)), (q_halls_lasts, .inl (g 0, 4, .inl a_halls_lasts)), (q_p4, .inr (7, [.int f_p4_number, .int f_p4_detail]))] (some (.int o.1)) [(q_this, .inr (9, [.ref q_houses, .ref q_halls, .ref q_posts, .ref q_blocks, .ref q_kinds, .int f_hour, .int f_day, .int f_prankHouse, .int f_bells, .int f_echoes, .int f_bellPranks])), (q_halls, .inr (2, [.int f_halls_size, .ref q_halls_rows, .ref q_halls_firsts, .ref q_halls_lasts])), (q_halls_rows, .inl (g 0, 4, .inl a_halls_rows)), (q_halls_firsts, .inl (g 0, 4, .inl a_halls_firsts)), (q_halls_lasts, .inl (g 0, 4, .inl a_halls_lasts)), (q_p4, .inr (7, [.int o.2.1, .int o.2.2]))] := by
  refine z_wr_start (by decide) (Nat.le_of_ble_eq_true rfl) ?_
  intro p e s m args below meth c Q A X hr hQ hA
  refine z_lv (lv' := [(0, .ref q_this), (1, .int p1), (2, .int p2), (3, .int p3), (4, .ref q_p4)]) rfl ?_
  have H31 : ∀ (n : Nat) (x5 : Int32) (f_p4_number : Int32) (f_p4_detail : Int32), L_X9_judgeHall_31 p1 p2 p3 f_halls_size a_halls_rows a_halls_firsts a_halls_lasts  n x5 f_p4_number f_p4_detail = some o → Z p l e { frames := 3, cells := 0, slots := 0, locals := 63 } s m args below meth c Q 7 0 0 (IW D A s [(q_this, .inr (9, [.ref q_houses, .ref q_halls, .ref q_posts, .ref q_blocks, .ref q_kinds, .int f_hour, .int f_day, .int f_prankHouse, .int f_bells, .int f_echoes, .int f_bellPranks])), (q_halls, .inr (2, [.int f_halls_size, .ref q_halls_rows, .ref q_halls_firsts, .ref q_halls_lasts])), (q_halls_rows, .inl (g 0, 4, .inl a_halls_rows)), (q_halls_firsts, .inl (g 0, 4, .inl a_halls_firsts)), (q_halls_lasts, .inl (g 0, 4, .inl a_halls_lasts)), (q_p4, .inr (7, [.int f_p4_number, .int f_p4_detail]))]) 31 [(0, .ref q_this), (1, .int p1), (3, .int p3), (4, .ref q_p4), (5, .int x5)] [] := by
    intro n
    induction n with
    | zero => intro x5 f_p4_number f_p4_detail h; cases h
    | succ n31 ih31 =>
      intro x5 f_p4_number f_p4_detail h
      refine z_iload X 4 dX9_judgeHall_31 rfl ?_
      refine z_iload_n X 2 dX9_judgeHall_33 rfl rfl ?_
      refine z_icmp_gt X 73 dX9_judgeHall_34 (by decide) h (fun _ h => ?_) (fun _ h => ?_)
      · refine z_aload_n X 0 dX9_judgeHall_73 rfl rfl ?_
        refine z_get (q0 := 0) (k := 1) (ci := 9) X IW_P iw_X9 rfl qf_X9_X9_halls (by decide) dX9_judgeHall_74 rfl rfl ?_
        obtain ⟨o7, e8, h⟩ := bnd_p h
        refine z_rdV (rest := []) (q0 := 1) (ci := 2) X IW_P k_X1_isFull (c_X1_isFull l D g q_halls q_halls_rows q_halls_firsts q_halls_lasts f_halls_size o7 e8) ql_X9_X1_isFull dX9_judgeHall_77 [1] rfl rfl rfl rfl rfl rfl ⟨Nat.le_of_ble_eq_true rfl, Nat.le_of_ble_eq_true rfl, rfl, rfl, Nat.le_of_ble_eq_true rfl, Nat.le_of_ble_eq_true rfl⟩ (Nat.le_of_ble_eq_true rfl) ?_
        refine z_if_eq X 93 dX9_judgeHall_80 (by decide) h (fun _ h => ?_) (fun _ h => ?_)
        · refine z_iconst X (0 : Int32) dX9_judgeHall_93 (by decide) ?_
          cases h
          exact z_iretW X hQ hA hr dX9_judgeHall_94
        · refine z_aload X 3 dX9_judgeHall_83 rfl ?_
          refine z_iconst X (1 : Int32) dX9_judgeHall_85 (by decide) ?_
          refine z_iconst X (4 : Int32) dX9_judgeHall_86 (by decide) ?_
          obtain ⟨o9, e10, h⟩ := bnd_p h
          refine z_wrV (rest := []) (q0 := 5) (ci := 7) (ws' := [(q_this, .inr (9, [.ref q_houses, .ref q_halls, .ref q_posts, .ref q_blocks, .ref q_kinds, .int f_hour, .int f_day, .int f_prankHouse, .int f_bells, .int f_echoes, .int f_bellPranks])), (q_halls, .inr (2, [.int f_halls_size, .ref q_halls_rows, .ref q_halls_firsts, .ref q_halls_lasts])), (q_halls_rows, .inl (g 0, 4, .inl a_halls_rows)), (q_halls_firsts, .inl (g 0, 4, .inl a_halls_firsts)), (q_halls_lasts, .inl (g 0, 4, .inl a_halls_lasts)), (q_p4, .inr (7, [.int o9.2.1, .int o9.2.2]))]) (wr := [(q_this, .inr (9, [.ref q_houses, .ref q_halls, .ref q_posts, .ref q_blocks, .ref q_kinds, .int f_hour, .int f_day, .int f_prankHouse, .int f_bells, .int f_echoes, .int f_bellPranks])), (q_halls, .inr (2, [.int f_halls_size, .ref q_halls_rows, .ref q_halls_firsts, .ref q_halls_lasts])), (q_halls_rows, .inl (g 0, 4, .inl a_halls_rows)), (q_halls_firsts, .inl (g 0, 4, .inl a_halls_firsts)), (q_halls_lasts, .inl (g 0, 4, .inl a_halls_lasts))]) (as := [q_this, q_halls, q_halls_rows, q_halls_firsts, q_halls_lasts, q_p4]) X k_X6_refuse (c_X6_refuse l D g q_p4 (1 : Int32) (4 : Int32) f_p4_number f_p4_detail o9 e10) ql_X9_X6_refuse dX9_judgeHall_87 [5] [0, 1, 2, 3, 4] ⟨rfl, rfl, rfl, rfl, rfl, rfl, rfl, rfl⟩ rfl rfl rfl rfl rfl ⟨Nat.le_of_ble_eq_true rfl, Nat.le_of_ble_eq_true rfl, rfl, rfl, Nat.le_of_ble_eq_true rfl, Nat.le_of_ble_eq_true rfl⟩ (Nat.le_of_ble_eq_true rfl) ?_
          refine z_goto X 94 dX9_judgeHall_90 (by decide) ?_
          cases h
          exact z_iretW X hQ hA hr dX9_judgeHall_94
      · refine z_iload_n X 1 dX9_judgeHall_37 rfl rfl ?_
        refine z_iload X 4 dX9_judgeHall_38 rfl ?_
        obtain ⟨o11, e12, h⟩ := bnd_p h
        refine z_rdS (rest := []) X IW_P k_X0_cellAt (c_X0_cellAt l D g p1 x5 o11 e12) ql_X9_X0_cellAt dX9_judgeHall_40 [] rfl rfl rfl ⟨Nat.le_of_ble_eq_true rfl, Nat.le_of_ble_eq_true rfl, rfl, rfl, Nat.le_of_ble_eq_true rfl, Nat.le_of_ble_eq_true rfl⟩ (Nat.le_of_ble_eq_true rfl) ?_
        refine z_istore X [(6, .int o11), (0, .ref q_this), (1, .int p1), (3, .int p3), (4, .ref q_p4), (5, .int x5)] dX9_judgeHall_43 (by decide) rfl ?_
        refine z_aload_n X 1 dX9_judgeHall_45 rfl rfl ?_
        refine z_get (q0 := 0) (k := 1) (ci := 9) X IW_P iw_X9 rfl qf_X9_X9_halls (by decide) dX9_judgeHall_46 rfl rfl ?_
        refine z_iload X 0 dX9_judgeHall_49 rfl ?_
        obtain ⟨o13, e14, h⟩ := bnd_p h
        refine z_rdV (rest := []) (q0 := 1) (ci := 2) X IW_P k_X1_around (c_X1_around l D g q_halls q_halls_rows q_halls_firsts q_halls_lasts o11 f_halls_size a_halls_rows a_halls_firsts a_halls_lasts o13 e14) ql_X9_X1_around dX9_judgeHall_51 [1, 2, 3, 4] rfl rfl rfl rfl rfl rfl ⟨Nat.le_of_ble_eq_true rfl, Nat.le_of_ble_eq_true rfl, rfl, rfl, Nat.le_of_ble_eq_true rfl, Nat.le_of_ble_eq_true rfl⟩ (Nat.le_of_ble_eq_true rfl) ?_
        refine z_iconst X ((-1) : Int32) dX9_judgeHall_54 (by decide) ?_
        refine z_icmp_eq X 67 dX9_judgeHall_55 (by decide) h (fun _ h => ?_) (fun _ h => ?_)
        · refine z_iinc X 5 [(5, .int (x5 + 1)), (6, .int o11), (0, .ref q_this), (1, .int p1), (3, .int p3), (4, .ref q_p4)] dX9_judgeHall_67 rfl rfl (by decide) rfl ?_
          refine z_goto X 31 dX9_judgeHall_70 (by decide) ?_
          refine z_sub (lv' := [(0, .ref q_this), (1, .int p1), (3, .int p3), (4, .ref q_p4), (5, .int (x5 + 1))]) [2, 3, 4, 5, 0] rfl ?_
          exact ih31 (x5 + 1) f_p4_number f_p4_detail h
        · refine z_aload X 4 dX9_judgeHall_58 rfl ?_
          refine z_iconst X (4 : Int32) dX9_judgeHall_60 (by decide) ?_
          refine z_iload X 0 dX9_judgeHall_61 rfl ?_
          obtain ⟨o15, e16, h⟩ := bnd_p h
          refine z_wrV (rest := []) (q0 := 5) (ci := 7) (ws' := [(q_this, .inr (9, [.ref q_houses, .ref q_halls, .ref q_posts, .ref q_blocks, .ref q_kinds, .int f_hour, .int f_day, .int f_prankHouse, .int f_bells, .int f_echoes, .int f_bellPranks])), (q_halls, .inr (2, [.int f_halls_size, .ref q_halls_rows, .ref q_halls_firsts, .ref q_halls_lasts])), (q_halls_rows, .inl (g 0, 4, .inl a_halls_rows)), (q_halls_firsts, .inl (g 0, 4, .inl a_halls_firsts)), (q_halls_lasts, .inl (g 0, 4, .inl a_halls_lasts)), (q_p4, .inr (7, [.int o15.2.1, .int o15.2.2]))]) (wr := [(q_this, .inr (9, [.ref q_houses, .ref q_halls, .ref q_posts, .ref q_blocks, .ref q_kinds, .int f_hour, .int f_day, .int f_prankHouse, .int f_bells, .int f_echoes, .int f_bellPranks])), (q_halls, .inr (2, [.int f_halls_size, .ref q_halls_rows, .ref q_halls_firsts, .ref q_halls_lasts])), (q_halls_rows, .inl (g 0, 4, .inl a_halls_rows)), (q_halls_firsts, .inl (g 0, 4, .inl a_halls_firsts)), (q_halls_lasts, .inl (g 0, 4, .inl a_halls_lasts))]) (as := [q_this, q_halls, q_halls_rows, q_halls_firsts, q_halls_lasts, q_p4]) X k_X6_refuse (c_X6_refuse l D g q_p4 (4 : Int32) o11 f_p4_number f_p4_detail o15 e16) ql_X9_X6_refuse dX9_judgeHall_63 [5] [0, 1, 2, 3, 4] ⟨rfl, rfl, rfl, rfl, rfl, rfl, rfl, rfl⟩ rfl rfl rfl rfl rfl ⟨Nat.le_of_ble_eq_true rfl, Nat.le_of_ble_eq_true rfl, rfl, rfl, Nat.le_of_ble_eq_true rfl, Nat.le_of_ble_eq_true rfl⟩ (Nat.le_of_ble_eq_true rfl) ?_
          cases h
          exact z_iretW X hQ hA hr dX9_judgeHall_66
  refine z_iload_n X 1 dX9_judgeHall_0 rfl rfl ?_
  obtain ⟨o1, e2, h⟩ := bnd_p h
  refine z_rdSN (rest := []) X IW_P k_X11_isLane (c_X11_isLane l D g p1 o1 e2) qlN_X9_X11_isLane dX9_judgeHall_1 [] rfl rfl rfl ⟨Nat.le_of_ble_eq_true rfl, Nat.le_of_ble_eq_true rfl, rfl, rfl, Nat.le_of_ble_eq_true rfl, Nat.le_of_ble_eq_true rfl⟩ (Nat.le_of_ble_eq_true rfl) ?_
  refine z_if_eq X 26 dX9_judgeHall_4 (by decide) h (fun _ h => ?_) (fun _ h => ?_)
  · refine z_iconst X (2 : Int32) dX9_judgeHall_26 (by decide) ?_
    cases h
    exact z_iretW X hQ hA hr dX9_judgeHall_27
  · refine z_iload_n X 2 dX9_judgeHall_7 rfl rfl ?_
    obtain ⟨o3, e4, h⟩ := bnd_p h
    refine z_rdSN (rest := []) X IW_P k_X11_isLane (c_X11_isLane l D g p2 o3 e4) qlN_X9_X11_isLane dX9_judgeHall_8 [] rfl rfl rfl ⟨Nat.le_of_ble_eq_true rfl, Nat.le_of_ble_eq_true rfl, rfl, rfl, Nat.le_of_ble_eq_true rfl, Nat.le_of_ble_eq_true rfl⟩ (Nat.le_of_ble_eq_true rfl) ?_
    refine z_if_eq X 26 dX9_judgeHall_11 (by decide) h (fun _ h => ?_) (fun _ h => ?_)
    · refine z_iconst X (2 : Int32) dX9_judgeHall_26 (by decide) ?_
      cases h
      exact z_iretW X hQ hA hr dX9_judgeHall_27
    · refine z_iload_n X 3 dX9_judgeHall_14 rfl rfl ?_
      obtain ⟨o5, e6, h⟩ := bnd_p h
      refine z_rdSN (rest := []) X IW_P k_X11_isLane (c_X11_isLane l D g p3 o5 e6) qlN_X9_X11_isLane dX9_judgeHall_15 [] rfl rfl rfl ⟨Nat.le_of_ble_eq_true rfl, Nat.le_of_ble_eq_true rfl, rfl, rfl, Nat.le_of_ble_eq_true rfl, Nat.le_of_ble_eq_true rfl⟩ (Nat.le_of_ble_eq_true rfl) ?_
      refine z_if_eq X 26 dX9_judgeHall_18 (by decide) h (fun _ h => ?_) (fun _ h => ?_)
      · refine z_iconst X (2 : Int32) dX9_judgeHall_26 (by decide) ?_
        cases h
        exact z_iretW X hQ hA hr dX9_judgeHall_27
      · refine z_iload_n X 3 dX9_judgeHall_21 rfl rfl ?_
        refine z_iload_n X 2 dX9_judgeHall_22 rfl rfl ?_
        refine z_icmp_ge X 28 dX9_judgeHall_23 (by decide) h (fun _ h => ?_) (fun _ h => ?_)
        · refine z_iload_n X 2 dX9_judgeHall_28 rfl rfl ?_
          refine z_istore X [(5, .int p2), (0, .ref q_this), (1, .int p1), (2, .int p2), (3, .int p3), (4, .ref q_p4)] dX9_judgeHall_29 (by decide) rfl ?_
          refine z_sub (lv' := [(0, .ref q_this), (1, .int p1), (3, .int p3), (4, .ref q_p4), (5, .int p2)]) [1, 2, 4, 5, 0] rfl ?_
          exact H31 100 p2 f_p4_number f_p4_detail h
        · refine z_iconst X (2 : Int32) dX9_judgeHall_26 (by decide) ?_
          cases h
          exact z_iretW X hQ hA hr dX9_judgeHall_27

def F_X1_add (p1 : Int32) (p2 : Int32) (p3 : Int32) (f_size : Int32) (a_rows : Nat → Int32) (a_firsts : Nat → Int32) (a_lasts : Nat → Int32) : Option (Int32 × Int32 × (Nat → Int32) × (Nat → Int32) × (Nat → Int32)) :=
  bnd (F_X7_put 4 f_size p1 a_rows) (fun o1 => bnd (F_X7_put 4 f_size p2 a_firsts) (fun o3 => bnd (F_X7_put 4 f_size p3 a_lasts) (fun o5 => some (f_size, (f_size + (1 : Int32)), o1, o3, o5))))
theorem dX1_add_0 : decode cX1_add 0 = .ok (.aload_n 0, 1) := by decide +kernel
theorem dX1_add_1 : decode cX1_add 1 = .ok (.getfield 21, 3) := by decide +kernel
theorem dX1_add_4 : decode cX1_add 4 = .ok (.istore 4, 2) := by decide +kernel
theorem dX1_add_6 : decode cX1_add 6 = .ok (.aload_n 0, 1) := by decide +kernel
theorem dX1_add_7 : decode cX1_add 7 = .ok (.getfield 9, 3) := by decide +kernel
theorem dX1_add_10 : decode cX1_add 10 = .ok (.iload 4, 2) := by decide +kernel
theorem dX1_add_12 : decode cX1_add 12 = .ok (.iload_n 1, 1) := by decide +kernel
theorem dX1_add_13 : decode cX1_add 13 = .ok (.invokestatic 44, 3) := by decide +kernel
theorem dX1_add_16 : decode cX1_add 16 = .ok (.aload_n 0, 1) := by decide +kernel
theorem dX1_add_17 : decode cX1_add 17 = .ok (.getfield 15, 3) := by decide +kernel
theorem dX1_add_20 : decode cX1_add 20 = .ok (.iload 4, 2) := by decide +kernel
theorem dX1_add_22 : decode cX1_add 22 = .ok (.iload_n 2, 1) := by decide +kernel
theorem dX1_add_23 : decode cX1_add 23 = .ok (.invokestatic 44, 3) := by decide +kernel
theorem dX1_add_26 : decode cX1_add 26 = .ok (.aload_n 0, 1) := by decide +kernel
theorem dX1_add_27 : decode cX1_add 27 = .ok (.getfield 18, 3) := by decide +kernel
theorem dX1_add_30 : decode cX1_add 30 = .ok (.iload 4, 2) := by decide +kernel
theorem dX1_add_32 : decode cX1_add 32 = .ok (.iload_n 3, 1) := by decide +kernel
theorem dX1_add_33 : decode cX1_add 33 = .ok (.invokestatic 44, 3) := by decide +kernel
theorem dX1_add_36 : decode cX1_add 36 = .ok (.aload_n 0, 1) := by decide +kernel
theorem dX1_add_37 : decode cX1_add 37 = .ok (.dup, 1) := by decide +kernel
theorem dX1_add_38 : decode cX1_add 38 = .ok (.getfield 21, 3) := by decide +kernel
theorem dX1_add_41 : decode cX1_add 41 = .ok (.iconst 1, 1) := by decide +kernel
theorem dX1_add_42 : decode cX1_add 42 = .ok (.iadd, 1) := by decide +kernel
theorem dX1_add_43 : decode cX1_add 43 = .ok (.putfield 21, 3) := by decide +kernel
theorem dX1_add_46 : decode cX1_add 46 = .ok (.iload 4, 2) := by decide +kernel
theorem dX1_add_48 : decode cX1_add 48 = .ok (.ireturn, 1) := by decide +kernel
theorem k_X1_add : cardV yX1_add (Cond.code yX1_add cX1_add 5 (some .int)) 3 := ⟨⟨qi_X1_add, qv_X1_add⟩, qc_X1_add, qn_X1, by decide +kernel, by decide +kernel, by decide +kernel⟩
set_option maxHeartbeats 4000000 in
set_option maxRecDepth 100000 in
theorem c_X1_add (l : Launch) (D : va_G) (g : Nat → ClassId) (q_this q_rows q_firsts q_lasts : Nat) (p1 p2 p3 : Int32) (f_size : Int32) (a_rows : Nat → Int32) (a_firsts : Nat → Int32) (a_lasts : Nat → Int32) (o : Int32 × Int32 × (Nat → Int32) × (Nat → Int32) × (Nat → Int32)) (h : F_X1_add p1 p2 p3 f_size a_rows a_firsts a_lasts = some o) : MW l yX1_add (Cond.code yX1_add cX1_add 5 (some .int)) { frames := 1, cells := 0, slots := 0, locals := 22 } D g [.ref q_this, .int p1, .int p2, .int p3] [(q_this, .inr (2, [.int f_size, .ref q_rows, .ref q_firsts, .ref q_lasts])), (q_rows, .inl (g 0, 4, .inl a_rows)), (q_firsts, .inl (g 0, 4, .inl a_firsts)), (q_lasts, .inl (g 0, 4, .inl a_lasts))] (some (.int o.1)) [(q_this, .inr (2, [.int o.2.1, .ref q_rows, .ref q_firsts, .ref q_lasts])), (q_rows, .inl (g 0, 4, .inl o.2.2.1)), (q_firsts, .inl (g 0, 4, .inl o.2.2.2.1)), (q_lasts, .inl (g 0, 4, .inl o.2.2.2.2))] := by
  refine z_wr_start (by decide) (Nat.le_of_ble_eq_true rfl) ?_
  intro p e s m args below meth c Q A X hr hQ hA
  refine z_lv (lv' := [(0, .ref q_this), (1, .int p1), (2, .int p2), (3, .int p3)]) rfl ?_
  refine z_aload_n X 0 dX1_add_0 rfl rfl ?_
  refine z_get (q0 := 0) (k := 0) (ci := 2) X IW_P iw_X1 rfl qf_X1_X1_size (by decide) dX1_add_1 rfl rfl ?_
  refine z_istore X [(4, .int f_size), (0, .ref q_this), (1, .int p1), (2, .int p2), (3, .int p3)] dX1_add_4 (by decide) rfl ?_
  refine z_aload_n X 1 dX1_add_6 rfl rfl ?_
  refine z_get (q0 := 0) (k := 1) (ci := 2) X IW_P iw_X1 rfl qf_X1_X1_rows (by decide) dX1_add_7 rfl rfl ?_
  refine z_iload X 0 dX1_add_10 rfl ?_
  refine z_iload_n X 2 dX1_add_12 rfl rfl ?_
  obtain ⟨o1, e2, h⟩ := bnd_p h
  refine z_wrS (rest := []) (ws' := [(q_this, .inr (2, [.int f_size, .ref q_rows, .ref q_firsts, .ref q_lasts])), (q_rows, .inl (g 0, 4, .inl o1)), (q_firsts, .inl (g 0, 4, .inl a_firsts)), (q_lasts, .inl (g 0, 4, .inl a_lasts))]) (wr := [(q_this, .inr (2, [.int f_size, .ref q_rows, .ref q_firsts, .ref q_lasts])), (q_firsts, .inl (g 0, 4, .inl a_firsts)), (q_lasts, .inl (g 0, 4, .inl a_lasts))]) (as := [q_this, q_rows, q_firsts, q_lasts]) X k_X7_put (c_X7_put l D g q_rows 4 f_size p1 a_rows o1 e2) ql_X1_X7_put dX1_add_13 [1] [0, 2, 3] ⟨rfl, rfl, rfl, rfl, rfl, rfl, rfl, rfl⟩ rfl rfl ⟨Nat.le_of_ble_eq_true rfl, Nat.le_of_ble_eq_true rfl, rfl, rfl, Nat.le_of_ble_eq_true rfl, Nat.le_of_ble_eq_true rfl⟩ (Nat.le_of_ble_eq_true rfl) ?_
  refine z_aload_n X 1 dX1_add_16 rfl rfl ?_
  refine z_get (q0 := 0) (k := 2) (ci := 2) X IW_P iw_X1 rfl qf_X1_X1_firsts (by decide) dX1_add_17 rfl rfl ?_
  refine z_iload X 0 dX1_add_20 rfl ?_
  refine z_iload_n X 3 dX1_add_22 rfl rfl ?_
  obtain ⟨o3, e4, h⟩ := bnd_p h
  refine z_wrS (rest := []) (ws' := [(q_this, .inr (2, [.int f_size, .ref q_rows, .ref q_firsts, .ref q_lasts])), (q_rows, .inl (g 0, 4, .inl o1)), (q_firsts, .inl (g 0, 4, .inl o3)), (q_lasts, .inl (g 0, 4, .inl a_lasts))]) (wr := [(q_this, .inr (2, [.int f_size, .ref q_rows, .ref q_firsts, .ref q_lasts])), (q_rows, .inl (g 0, 4, .inl o1)), (q_lasts, .inl (g 0, 4, .inl a_lasts))]) (as := [q_this, q_rows, q_firsts, q_lasts]) X k_X7_put (c_X7_put l D g q_firsts 4 f_size p2 a_firsts o3 e4) ql_X1_X7_put dX1_add_23 [2] [0, 1, 3] ⟨rfl, rfl, rfl, rfl, rfl, rfl, rfl, rfl⟩ rfl rfl ⟨Nat.le_of_ble_eq_true rfl, Nat.le_of_ble_eq_true rfl, rfl, rfl, Nat.le_of_ble_eq_true rfl, Nat.le_of_ble_eq_true rfl⟩ (Nat.le_of_ble_eq_true rfl) ?_
  refine z_aload_n X 1 dX1_add_26 rfl rfl ?_
  refine z_get (q0 := 0) (k := 3) (ci := 2) X IW_P iw_X1 rfl qf_X1_X1_lasts (by decide) dX1_add_27 rfl rfl ?_
  refine z_iload X 0 dX1_add_30 rfl ?_
  refine z_iload_n X 4 dX1_add_32 rfl rfl ?_
  obtain ⟨o5, e6, h⟩ := bnd_p h
  refine z_wrS (rest := []) (ws' := [(q_this, .inr (2, [.int f_size, .ref q_rows, .ref q_firsts, .ref q_lasts])), (q_rows, .inl (g 0, 4, .inl o1)), (q_firsts, .inl (g 0, 4, .inl o3)), (q_lasts, .inl (g 0, 4, .inl o5))]) (wr := [(q_this, .inr (2, [.int f_size, .ref q_rows, .ref q_firsts, .ref q_lasts])), (q_rows, .inl (g 0, 4, .inl o1)), (q_firsts, .inl (g 0, 4, .inl o3))]) (as := [q_this, q_rows, q_firsts, q_lasts]) X k_X7_put (c_X7_put l D g q_lasts 4 f_size p3 a_lasts o5 e6) ql_X1_X7_put dX1_add_33 [3] [0, 1, 2] ⟨rfl, rfl, rfl, rfl, rfl, rfl, rfl, rfl⟩ rfl rfl ⟨Nat.le_of_ble_eq_true rfl, Nat.le_of_ble_eq_true rfl, rfl, rfl, Nat.le_of_ble_eq_true rfl, Nat.le_of_ble_eq_true rfl⟩ (Nat.le_of_ble_eq_true rfl) ?_
  refine z_aload_n X 1 dX1_add_36 rfl rfl ?_
  refine z_dup X dX1_add_37 rfl ?_
  refine z_get (q0 := 0) (k := 0) (ci := 2) X IW_P iw_X1 rfl qf_X1_X1_size (by decide) dX1_add_38 rfl rfl ?_
  refine z_iconst X (1 : Int32) dX1_add_41 (by decide) ?_
  refine z_iadd X dX1_add_42 ?_
  refine z_put (q0 := 0) (k := 0) (ci := 2) (ws' := [(q_this, .inr (2, [.int (f_size + (1 : Int32)), .ref q_rows, .ref q_firsts, .ref q_lasts])), (q_rows, .inl (g 0, 4, .inl o1)), (q_firsts, .inl (g 0, 4, .inl o3)), (q_lasts, .inl (g 0, 4, .inl o5))]) X iw_X1 tyX1_ok nmX1 rfl qf_X1_X1_size (by decide) rfl rfl dX1_add_43 rfl rfl rfl (Nat.le_of_ble_eq_true rfl) rfl ?_
  refine z_iload X 0 dX1_add_46 rfl ?_
  cases h
  exact z_iretW X hQ hA hr dX1_add_48

def F_X1_has (p1 : Int32) (f_size : Int32) : Option (Int32) :=
  brn (p1 < 0) (some ((0 : Int32))) (brn (f_size ≤ p1) (some ((0 : Int32))) (some ((1 : Int32))))
theorem dX1_has_0 : decode cX1_has 0 = .ok (.iload_n 1, 1) := by decide +kernel
theorem dX1_has_1 : decode cX1_has 1 = .ok (.ifCond .lt 15, 3) := by decide +kernel
theorem dX1_has_4 : decode cX1_has 4 = .ok (.iload_n 1, 1) := by decide +kernel
theorem dX1_has_5 : decode cX1_has 5 = .ok (.aload_n 0, 1) := by decide +kernel
theorem dX1_has_6 : decode cX1_has 6 = .ok (.getfield 21, 3) := by decide +kernel
theorem dX1_has_9 : decode cX1_has 9 = .ok (.if_icmp .ge 7, 3) := by decide +kernel
theorem dX1_has_12 : decode cX1_has 12 = .ok (.iconst 1, 1) := by decide +kernel
theorem dX1_has_13 : decode cX1_has 13 = .ok (.goto 4, 3) := by decide +kernel
theorem dX1_has_16 : decode cX1_has 16 = .ok (.iconst 0, 1) := by decide +kernel
theorem dX1_has_17 : decode cX1_has 17 = .ok (.ireturn, 1) := by decide +kernel
theorem k_X1_has : cardV yX1_has (Cond.code yX1_has cX1_has 2 (some .boolean)) 1 := ⟨⟨qi_X1_has, qv_X1_has⟩, qc_X1_has, qn_X1, by decide +kernel, by decide +kernel, by decide +kernel⟩
set_option maxHeartbeats 4000000 in
set_option maxRecDepth 100000 in
theorem c_X1_has (l : Launch) (D : va_G) (g : Nat → ClassId) (q_this q_rows q_firsts q_lasts : Nat) (p1 : Int32) (f_size : Int32) (o : Int32) (h : F_X1_has p1 f_size = some o) : MR l yX1_has (Cond.code yX1_has cX1_has 2 (some .boolean)) { frames := 0, cells := 0, slots := 0, locals := 0 } D g [.ref q_this, .int p1] [(q_this, .inr (2, [.int f_size, .ref q_rows, .ref q_firsts, .ref q_lasts]))] (some (.int o)) := by
  refine z_rd_start (by decide) (Nat.le_of_ble_eq_true rfl) ?_
  intro p e s m args below meth c Q X hr hQ
  refine z_lv (lv' := [(0, .ref q_this), (1, .int p1)]) rfl ?_
  refine z_iload_n X 1 dX1_has_0 rfl rfl ?_
  refine z_if_lt X 16 dX1_has_1 (by decide) h (fun _ h => ?_) (fun _ h => ?_)
  · refine z_iconst X (0 : Int32) dX1_has_16 (by decide) ?_
    exact z_zretR X hQ hr dX1_has_17 rfl h
  · refine z_iload_n X 1 dX1_has_4 rfl rfl ?_
    refine z_aload_n X 0 dX1_has_5 rfl rfl ?_
    refine z_get (q0 := 0) (k := 0) (ci := 2) X IR_P iw_X1 rfl qf_X1_X1_size (by decide) dX1_has_6 rfl rfl ?_
    refine z_icmp_ge X 16 dX1_has_9 (by decide) h (fun _ h => ?_) (fun _ h => ?_)
    · refine z_iconst X (0 : Int32) dX1_has_16 (by decide) ?_
      exact z_zretR X hQ hr dX1_has_17 rfl h
    · refine z_iconst X (1 : Int32) dX1_has_12 (by decide) ?_
      refine z_goto X 17 dX1_has_13 (by decide) ?_
      exact z_zretR X hQ hr dX1_has_17 rfl h

def F_X1_remove (p1 : Int32) (f_size : Int32) (a_rows : Nat → Int32) (a_firsts : Nat → Int32) (a_lasts : Nat → Int32) : Option (Int32 × Int32 × (Nat → Int32) × (Nat → Int32) × (Nat → Int32)) :=
  bnd (F_X7_closeGap 4 p1 a_rows) (fun o1 => bnd (F_X7_closeGap 4 p1 a_firsts) (fun o3 => bnd (F_X7_closeGap 4 p1 a_lasts) (fun o5 => some ((f_size - (1 : Int32)), (f_size - (1 : Int32)), o1, o3, o5))))
theorem dX1_remove_0 : decode cX1_remove 0 = .ok (.aload_n 0, 1) := by decide +kernel
theorem dX1_remove_1 : decode cX1_remove 1 = .ok (.getfield 9, 3) := by decide +kernel
theorem dX1_remove_4 : decode cX1_remove 4 = .ok (.iload_n 1, 1) := by decide +kernel
theorem dX1_remove_5 : decode cX1_remove 5 = .ok (.invokestatic 48, 3) := by decide +kernel
theorem dX1_remove_8 : decode cX1_remove 8 = .ok (.aload_n 0, 1) := by decide +kernel
theorem dX1_remove_9 : decode cX1_remove 9 = .ok (.getfield 15, 3) := by decide +kernel
theorem dX1_remove_12 : decode cX1_remove 12 = .ok (.iload_n 1, 1) := by decide +kernel
theorem dX1_remove_13 : decode cX1_remove 13 = .ok (.invokestatic 48, 3) := by decide +kernel
theorem dX1_remove_16 : decode cX1_remove 16 = .ok (.aload_n 0, 1) := by decide +kernel
theorem dX1_remove_17 : decode cX1_remove 17 = .ok (.getfield 18, 3) := by decide +kernel
theorem dX1_remove_20 : decode cX1_remove 20 = .ok (.iload_n 1, 1) := by decide +kernel
theorem dX1_remove_21 : decode cX1_remove 21 = .ok (.invokestatic 48, 3) := by decide +kernel
theorem dX1_remove_24 : decode cX1_remove 24 = .ok (.aload_n 0, 1) := by decide +kernel
theorem dX1_remove_25 : decode cX1_remove 25 = .ok (.dup, 1) := by decide +kernel
theorem dX1_remove_26 : decode cX1_remove 26 = .ok (.getfield 21, 3) := by decide +kernel
theorem dX1_remove_29 : decode cX1_remove 29 = .ok (.iconst 1, 1) := by decide +kernel
theorem dX1_remove_30 : decode cX1_remove 30 = .ok (.isub, 1) := by decide +kernel
theorem dX1_remove_31 : decode cX1_remove 31 = .ok (.putfield 21, 3) := by decide +kernel
theorem dX1_remove_34 : decode cX1_remove 34 = .ok (.aload_n 0, 1) := by decide +kernel
theorem dX1_remove_35 : decode cX1_remove 35 = .ok (.getfield 21, 3) := by decide +kernel
theorem dX1_remove_38 : decode cX1_remove 38 = .ok (.ireturn, 1) := by decide +kernel
theorem k_X1_remove : cardV yX1_remove (Cond.code yX1_remove cX1_remove 2 (some .int)) 1 := ⟨⟨qi_X1_remove, qv_X1_remove⟩, qc_X1_remove, qn_X1, by decide +kernel, by decide +kernel, by decide +kernel⟩
set_option maxHeartbeats 4000000 in
set_option maxRecDepth 100000 in
theorem c_X1_remove (l : Launch) (D : va_G) (g : Nat → ClassId) (q_this q_rows q_firsts q_lasts : Nat) (p1 : Int32) (f_size : Int32) (a_rows : Nat → Int32) (a_firsts : Nat → Int32) (a_lasts : Nat → Int32) (o : Int32 × Int32 × (Nat → Int32) × (Nat → Int32) × (Nat → Int32)) (h : F_X1_remove p1 f_size a_rows a_firsts a_lasts = some o) : MW l yX1_remove (Cond.code yX1_remove cX1_remove 2 (some .int)) { frames := 1, cells := 0, slots := 0, locals := 22 } D g [.ref q_this, .int p1] [(q_this, .inr (2, [.int f_size, .ref q_rows, .ref q_firsts, .ref q_lasts])), (q_rows, .inl (g 0, 4, .inl a_rows)), (q_firsts, .inl (g 0, 4, .inl a_firsts)), (q_lasts, .inl (g 0, 4, .inl a_lasts))] (some (.int o.1)) [(q_this, .inr (2, [.int o.2.1, .ref q_rows, .ref q_firsts, .ref q_lasts])), (q_rows, .inl (g 0, 4, .inl o.2.2.1)), (q_firsts, .inl (g 0, 4, .inl o.2.2.2.1)), (q_lasts, .inl (g 0, 4, .inl o.2.2.2.2))] := by
  refine z_wr_start (by decide) (Nat.le_of_ble_eq_true rfl) ?_
  intro p e s m args below meth c Q A X hr hQ hA
  refine z_lv (lv' := [(0, .ref q_this), (1, .int p1)]) rfl ?_
  refine z_aload_n X 0 dX1_remove_0 rfl rfl ?_
  refine z_get (q0 := 0) (k := 1) (ci := 2) X IW_P iw_X1 rfl qf_X1_X1_rows (by decide) dX1_remove_1 rfl rfl ?_
  refine z_iload_n X 1 dX1_remove_4 rfl rfl ?_
  obtain ⟨o1, e2, h⟩ := bnd_p h
  refine z_wrS (rest := []) (ws' := [(q_this, .inr (2, [.int f_size, .ref q_rows, .ref q_firsts, .ref q_lasts])), (q_rows, .inl (g 0, 4, .inl o1)), (q_firsts, .inl (g 0, 4, .inl a_firsts)), (q_lasts, .inl (g 0, 4, .inl a_lasts))]) (wr := [(q_this, .inr (2, [.int f_size, .ref q_rows, .ref q_firsts, .ref q_lasts])), (q_firsts, .inl (g 0, 4, .inl a_firsts)), (q_lasts, .inl (g 0, 4, .inl a_lasts))]) (as := [q_this, q_rows, q_firsts, q_lasts]) X k_X7_closeGap (c_X7_closeGap l D g q_rows 4 p1 a_rows o1 e2) ql_X1_X7_closeGap dX1_remove_5 [1] [0, 2, 3] ⟨rfl, rfl, rfl, rfl, rfl, rfl, rfl, rfl⟩ rfl rfl ⟨Nat.le_of_ble_eq_true rfl, Nat.le_of_ble_eq_true rfl, rfl, rfl, Nat.le_of_ble_eq_true rfl, Nat.le_of_ble_eq_true rfl⟩ (Nat.le_of_ble_eq_true rfl) ?_
  refine z_aload_n X 0 dX1_remove_8 rfl rfl ?_
  refine z_get (q0 := 0) (k := 2) (ci := 2) X IW_P iw_X1 rfl qf_X1_X1_firsts (by decide) dX1_remove_9 rfl rfl ?_
  refine z_iload_n X 1 dX1_remove_12 rfl rfl ?_
  obtain ⟨o3, e4, h⟩ := bnd_p h
  refine z_wrS (rest := []) (ws' := [(q_this, .inr (2, [.int f_size, .ref q_rows, .ref q_firsts, .ref q_lasts])), (q_rows, .inl (g 0, 4, .inl o1)), (q_firsts, .inl (g 0, 4, .inl o3)), (q_lasts, .inl (g 0, 4, .inl a_lasts))]) (wr := [(q_this, .inr (2, [.int f_size, .ref q_rows, .ref q_firsts, .ref q_lasts])), (q_rows, .inl (g 0, 4, .inl o1)), (q_lasts, .inl (g 0, 4, .inl a_lasts))]) (as := [q_this, q_rows, q_firsts, q_lasts]) X k_X7_closeGap (c_X7_closeGap l D g q_firsts 4 p1 a_firsts o3 e4) ql_X1_X7_closeGap dX1_remove_13 [2] [0, 1, 3] ⟨rfl, rfl, rfl, rfl, rfl, rfl, rfl, rfl⟩ rfl rfl ⟨Nat.le_of_ble_eq_true rfl, Nat.le_of_ble_eq_true rfl, rfl, rfl, Nat.le_of_ble_eq_true rfl, Nat.le_of_ble_eq_true rfl⟩ (Nat.le_of_ble_eq_true rfl) ?_
  refine z_aload_n X 0 dX1_remove_16 rfl rfl ?_
  refine z_get (q0 := 0) (k := 3) (ci := 2) X IW_P iw_X1 rfl qf_X1_X1_lasts (by decide) dX1_remove_17 rfl rfl ?_
  refine z_iload_n X 1 dX1_remove_20 rfl rfl ?_
  obtain ⟨o5, e6, h⟩ := bnd_p h
  refine z_wrS (rest := []) (ws' := [(q_this, .inr (2, [.int f_size, .ref q_rows, .ref q_firsts, .ref q_lasts])), (q_rows, .inl (g 0, 4, .inl o1)), (q_firsts, .inl (g 0, 4, .inl o3)), (q_lasts, .inl (g 0, 4, .inl o5))]) (wr := [(q_this, .inr (2, [.int f_size, .ref q_rows, .ref q_firsts, .ref q_lasts])), (q_rows, .inl (g 0, 4, .inl o1)), (q_firsts, .inl (g 0, 4, .inl o3))]) (as := [q_this, q_rows, q_firsts, q_lasts]) X k_X7_closeGap (c_X7_closeGap l D g q_lasts 4 p1 a_lasts o5 e6) ql_X1_X7_closeGap dX1_remove_21 [3] [0, 1, 2] ⟨rfl, rfl, rfl, rfl, rfl, rfl, rfl, rfl⟩ rfl rfl ⟨Nat.le_of_ble_eq_true rfl, Nat.le_of_ble_eq_true rfl, rfl, rfl, Nat.le_of_ble_eq_true rfl, Nat.le_of_ble_eq_true rfl⟩ (Nat.le_of_ble_eq_true rfl) ?_
  refine z_aload_n X 0 dX1_remove_24 rfl rfl ?_
  refine z_dup X dX1_remove_25 rfl ?_
  refine z_get (q0 := 0) (k := 0) (ci := 2) X IW_P iw_X1 rfl qf_X1_X1_size (by decide) dX1_remove_26 rfl rfl ?_
  refine z_iconst X (1 : Int32) dX1_remove_29 (by decide) ?_
  refine z_isub X dX1_remove_30 ?_
  refine z_put (q0 := 0) (k := 0) (ci := 2) (ws' := [(q_this, .inr (2, [.int (f_size - (1 : Int32)), .ref q_rows, .ref q_firsts, .ref q_lasts])), (q_rows, .inl (g 0, 4, .inl o1)), (q_firsts, .inl (g 0, 4, .inl o3)), (q_lasts, .inl (g 0, 4, .inl o5))]) X iw_X1 tyX1_ok nmX1 rfl qf_X1_X1_size (by decide) rfl rfl dX1_remove_31 rfl rfl rfl (Nat.le_of_ble_eq_true rfl) rfl ?_
  refine z_aload_n X 0 dX1_remove_34 rfl rfl ?_
  refine z_get (q0 := 0) (k := 0) (ci := 2) X IW_P iw_X1 rfl qf_X1_X1_size (by decide) dX1_remove_35 rfl rfl ?_
  cases h
  exact z_iretW X hQ hA hr dX1_remove_38

def F_X9_judgeHours (p1 : Int32) : Option (Int32) :=
  bnd (F_X11_isWithin p1 (1 : Int32) (99 : Int32)) (fun o1 => brn (o1 = 0) (some ((2 : Int32))) (some ((0 : Int32))))
theorem dX9_judgeHours_0 : decode cX9_judgeHours 0 = .ok (.iload_n 1, 1) := by decide +kernel
theorem dX9_judgeHours_1 : decode cX9_judgeHours 1 = .ok (.iconst 1, 1) := by decide +kernel
theorem dX9_judgeHours_2 : decode cX9_judgeHours 2 = .ok (.bipush 99, 2) := by decide +kernel
theorem dX9_judgeHours_4 : decode cX9_judgeHours 4 = .ok (.invokestatic 109, 3) := by decide +kernel
theorem dX9_judgeHours_7 : decode cX9_judgeHours 7 = .ok (.ifCond .eq 7, 3) := by decide +kernel
theorem dX9_judgeHours_10 : decode cX9_judgeHours 10 = .ok (.iconst 0, 1) := by decide +kernel
theorem dX9_judgeHours_11 : decode cX9_judgeHours 11 = .ok (.goto 4, 3) := by decide +kernel
theorem dX9_judgeHours_14 : decode cX9_judgeHours 14 = .ok (.iconst 2, 1) := by decide +kernel
theorem dX9_judgeHours_15 : decode cX9_judgeHours 15 = .ok (.ireturn, 1) := by decide +kernel
theorem k_X9_judgeHours : cardV yX9_judgeHours (Cond.code yX9_judgeHours cX9_judgeHours 2 (some .int)) 1 := ⟨⟨qi_X9_judgeHours, qv_X9_judgeHours⟩, qc_X9_judgeHours, qn_X9, by decide +kernel, by decide +kernel, by decide +kernel⟩
set_option maxHeartbeats 4000000 in
set_option maxRecDepth 100000 in
theorem c_X9_judgeHours (l : Launch) (D : va_G) (g : Nat → ClassId) (q_this : Nat) (p1 : Int32) (o : Int32) (h : F_X9_judgeHours p1 = some o) : MR l yX9_judgeHours (Cond.code yX9_judgeHours cX9_judgeHours 2 (some .int)) { frames := 1, cells := 0, slots := 0, locals := 22 } D g [.ref q_this, .int p1] [] (some (.int o)) := by
  refine z_rd_start (by decide) (Nat.le_of_ble_eq_true rfl) ?_
  intro p e s m args below meth c Q X hr hQ
  refine z_lv (lv' := [(0, .ref q_this), (1, .int p1)]) rfl ?_
  refine z_iload_n X 1 dX9_judgeHours_0 rfl rfl ?_
  refine z_iconst X (1 : Int32) dX9_judgeHours_1 (by decide) ?_
  refine z_bipush X (99 : Int32) dX9_judgeHours_2 (by decide) ?_
  obtain ⟨o1, e2, h⟩ := bnd_p h
  refine z_rdSN (rest := []) X IR_P k_X11_isWithin (c_X11_isWithin l D g p1 (1 : Int32) (99 : Int32) o1 e2) qlN_X9_X11_isWithin dX9_judgeHours_4 [] rfl rfl rfl ⟨Nat.le_of_ble_eq_true rfl, Nat.le_of_ble_eq_true rfl, rfl, rfl, Nat.le_of_ble_eq_true rfl, Nat.le_of_ble_eq_true rfl⟩ (Nat.le_of_ble_eq_true rfl) ?_
  refine z_if_eq X 14 dX9_judgeHours_7 (by decide) h (fun _ h => ?_) (fun _ h => ?_)
  · refine z_iconst X (2 : Int32) dX9_judgeHours_14 (by decide) ?_
    exact z_iretR X hQ hr dX9_judgeHours_15 h
  · refine z_iconst X (0 : Int32) dX9_judgeHours_10 (by decide) ?_
    refine z_goto X 15 dX9_judgeHours_11 (by decide) ?_
    exact z_iretR X hQ hr dX9_judgeHours_15 h

def F_X9_letPass (p1 : Int32) (f_hour : Int32) (f_day : Int32) : Option (Int32 × Int32 × Int32) :=
  some (((f_hour + p1) - (f_hour + p1) / (24 : Int32) * (24 : Int32)), ((f_hour + p1) - (f_hour + p1) / (24 : Int32) * (24 : Int32)), (f_day + ((f_hour + p1) / (24 : Int32))))
theorem dX9_letPass_0 : decode cX9_letPass 0 = .ok (.aload_n 0, 1) := by decide +kernel
theorem dX9_letPass_1 : decode cX9_letPass 1 = .ok (.getfield 39, 3) := by decide +kernel
theorem dX9_letPass_4 : decode cX9_letPass 4 = .ok (.iload_n 1, 1) := by decide +kernel
theorem dX9_letPass_5 : decode cX9_letPass 5 = .ok (.iadd, 1) := by decide +kernel
theorem dX9_letPass_6 : decode cX9_letPass 6 = .ok (.istore_n 2, 1) := by decide +kernel
theorem dX9_letPass_7 : decode cX9_letPass 7 = .ok (.aload_n 0, 1) := by decide +kernel
theorem dX9_letPass_8 : decode cX9_letPass 8 = .ok (.dup, 1) := by decide +kernel
theorem dX9_letPass_9 : decode cX9_letPass 9 = .ok (.getfield 43, 3) := by decide +kernel
theorem dX9_letPass_12 : decode cX9_letPass 12 = .ok (.iload_n 2, 1) := by decide +kernel
theorem dX9_letPass_13 : decode cX9_letPass 13 = .ok (.bipush 24, 2) := by decide +kernel
theorem dX9_letPass_15 : decode cX9_letPass 15 = .ok (.idiv, 1) := by decide +kernel
theorem dX9_letPass_16 : decode cX9_letPass 16 = .ok (.iadd, 1) := by decide +kernel
theorem dX9_letPass_17 : decode cX9_letPass 17 = .ok (.putfield 43, 3) := by decide +kernel
theorem dX9_letPass_20 : decode cX9_letPass 20 = .ok (.aload_n 0, 1) := by decide +kernel
theorem dX9_letPass_21 : decode cX9_letPass 21 = .ok (.iload_n 2, 1) := by decide +kernel
theorem dX9_letPass_22 : decode cX9_letPass 22 = .ok (.bipush 24, 2) := by decide +kernel
theorem dX9_letPass_24 : decode cX9_letPass 24 = .ok (.irem, 1) := by decide +kernel
theorem dX9_letPass_25 : decode cX9_letPass 25 = .ok (.putfield 39, 3) := by decide +kernel
theorem dX9_letPass_28 : decode cX9_letPass 28 = .ok (.aload_n 0, 1) := by decide +kernel
theorem dX9_letPass_29 : decode cX9_letPass 29 = .ok (.getfield 39, 3) := by decide +kernel
theorem dX9_letPass_32 : decode cX9_letPass 32 = .ok (.ireturn, 1) := by decide +kernel
theorem k_X9_letPass : cardV yX9_letPass (Cond.code yX9_letPass cX9_letPass 3 (some .int)) 1 := ⟨⟨qi_X9_letPass, qv_X9_letPass⟩, qc_X9_letPass, qn_X9, by decide +kernel, by decide +kernel, by decide +kernel⟩
set_option maxHeartbeats 4000000 in
set_option maxRecDepth 100000 in
theorem c_X9_letPass (l : Launch) (D : va_G) (g : Nat → ClassId) (q_this q_houses q_halls q_posts q_blocks q_kinds : Nat) (p1 : Int32) (f_hour : Int32) (f_day : Int32) (f_prankHouse : Int32) (f_bells : Int32) (f_echoes : Int32) (f_bellPranks : Int32) (o : Int32 × Int32 × Int32) (h : F_X9_letPass p1 f_hour f_day = some o) : MW l yX9_letPass (Cond.code yX9_letPass cX9_letPass 3 (some .int)) { frames := 0, cells := 0, slots := 0, locals := 0 } D g [.ref q_this, .int p1] [(q_this, .inr (9, [.ref q_houses, .ref q_halls, .ref q_posts, .ref q_blocks, .ref q_kinds, .int f_hour, .int f_day, .int f_prankHouse, .int f_bells, .int f_echoes, .int f_bellPranks]))] (some (.int o.1)) [(q_this, .inr (9, [.ref q_houses, .ref q_halls, .ref q_posts, .ref q_blocks, .ref q_kinds, .int o.2.1, .int o.2.2, .int f_prankHouse, .int f_bells, .int f_echoes, .int f_bellPranks]))] := by
  refine z_wr_start (by decide) (Nat.le_of_ble_eq_true rfl) ?_
  intro p e s m args below meth c Q A X hr hQ hA
  refine z_lv (lv' := [(0, .ref q_this), (1, .int p1)]) rfl ?_
  refine z_aload_n X 0 dX9_letPass_0 rfl rfl ?_
  refine z_get (q0 := 0) (k := 5) (ci := 9) X IW_P iw_X9 rfl qf_X9_X9_hour (by decide) dX9_letPass_1 rfl rfl ?_
  refine z_iload_n X 1 dX9_letPass_4 rfl rfl ?_
  refine z_iadd X dX9_letPass_5 ?_
  refine z_istore_n X [(2, .int (f_hour + p1)), (0, .ref q_this), (1, .int p1)] dX9_letPass_6 rfl (by decide) rfl ?_
  refine z_aload_n X 1 dX9_letPass_7 rfl rfl ?_
  refine z_dup X dX9_letPass_8 rfl ?_
  refine z_get (q0 := 0) (k := 6) (ci := 9) X IW_P iw_X9 rfl qf_X9_X9_day (by decide) dX9_letPass_9 rfl rfl ?_
  refine z_iload_n X 0 dX9_letPass_12 rfl rfl ?_
  refine z_bipush X (24 : Int32) dX9_letPass_13 (by decide) ?_
  refine z_idiv X dX9_letPass_15 (by decide) ?_
  refine z_iadd X dX9_letPass_16 ?_
  refine z_put (q0 := 0) (k := 6) (ci := 9) (ws' := [(q_this, .inr (9, [.ref q_houses, .ref q_halls, .ref q_posts, .ref q_blocks, .ref q_kinds, .int f_hour, .int (f_day + ((f_hour + p1) / (24 : Int32))), .int f_prankHouse, .int f_bells, .int f_echoes, .int f_bellPranks]))]) X iw_X9 tyX9_ok nmX9 rfl qf_X9_X9_day (by decide) rfl rfl dX9_letPass_17 rfl rfl rfl (Nat.le_of_ble_eq_true rfl) rfl ?_
  refine z_aload_n X 1 dX9_letPass_20 rfl rfl ?_
  refine z_iload_n X 0 dX9_letPass_21 rfl rfl ?_
  refine z_bipush X (24 : Int32) dX9_letPass_22 (by decide) ?_
  refine z_irem X dX9_letPass_24 (by decide) ?_
  refine z_put (q0 := 0) (k := 5) (ci := 9) (ws' := [(q_this, .inr (9, [.ref q_houses, .ref q_halls, .ref q_posts, .ref q_blocks, .ref q_kinds, .int ((f_hour + p1) - (f_hour + p1) / (24 : Int32) * (24 : Int32)), .int (f_day + ((f_hour + p1) / (24 : Int32))), .int f_prankHouse, .int f_bells, .int f_echoes, .int f_bellPranks]))]) X iw_X9 tyX9_ok nmX9 rfl qf_X9_X9_hour (by decide) rfl rfl dX9_letPass_25 rfl rfl rfl (Nat.le_of_ble_eq_true rfl) rfl ?_
  refine z_aload_n X 1 dX9_letPass_28 rfl rfl ?_
  refine z_get (q0 := 0) (k := 5) (ci := 9) X IW_P iw_X9 rfl qf_X9_X9_hour (by decide) dX9_letPass_29 rfl rfl ?_
  cases h
  exact z_iretW X hQ hA hr dX9_letPass_32
