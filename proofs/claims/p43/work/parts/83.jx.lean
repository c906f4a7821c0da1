/-! ===== judges of numbers in range ===== -/
section JX
variable {b : Int} {σ : Nat → Int} {v : TVal} {xn xd rn rd : Int32}
theorem psi_house (h : WF b σ) (T : TR σ v) {a f g c : Int} (e1 : 0 ≤ a ∧ a ≤ 63) (e2 : 0 ≤ f ∧ f ≤ 23) (e3 : 0 ≤ g ∧ g ≤ 23) (e5 : σ 2 < 10) (hc : c = 2 ∨ c = 3) (e : F_X9_judgeHouse (I a) (I f) (I g) (I (σ 2)) (v.2 0) (v.2 10) xn xd = some (I c, rn, rd)) : c = 3 ∧ (rn = I 2 ∨ rn = I 3) := by
  have hn := h.n
  have ho := hOn_in h a
  have k1 := x_isBlocked h T.a10 e1.1 e1.2
  have k3 := x_hOn h T.a0 (show InR a by omega)
  unfold F_X9_judgeHouse F_X2_isFull F_X6_refuse at e
  cases hb : blkB σ a
  · rw [hb, bI_f] at k1
    by_cases e4 : hOn σ a = -1
    · rw [x_cell_p (by omega) e1, x_hour_p (by omega) e2, x_hour_p (by omega) e3, k1, k3, e4] at e
      have e9 : some (I 0, xn, xd) = some (I c, rn, rd) := by
        rw [← e]
        simp (disch := omega) only [brn_if, grd_if, ↓bnd_some, bnd_some, bnd_if, bnd_none, J_at, I_add, I_sub, I_mul, I_neg, lit_0, lit_1, lit_2, lit_3, lit_4, lit_5, lit_6, lit_7, lit_8, lit_9, lit_10, lit_11, lit_12, lit_13, lit_14, lit_20, lit_23, lit_24, lit_32, lit_33, lit_35, lit_40, lit_43, lit_45, lit_46, lit_47, lit_48, lit_49, lit_50, lit_57, lit_58, lit_59, lit_60, lit_61, lit_63, lit_64, lit_77, lit_95, lit_98, lit_99, lit_101, lit_104, lit_111, lit_112, lit_114, lit_116, lit_122, lit_127, lit_139, lit_147, lit_180, lit_255, lit_1000, lit_1029, I_lt, I_le, I_eq, I_cl, I_inb, if_pos, if_neg, eq_self, Bool.false_eq_true, ite_true, ite_false, Int.zero_add, Int.add_zero]
      have e0 : I 0 = I c := congrArg (fun o : Int32 × Int32 × Int32 => o.1) (Option.some.inj e9)
      rw [I_eq (by omega) (by omega) (by omega) (by omega)] at e0
      omega
    · rw [x_cell_p (by omega) e1, x_hour_p (by omega) e2, x_hour_p (by omega) e3, k1, k3] at e
      have e9 : some (I 3, I 3, I (hOn σ a)) = some (I c, rn, rd) := by
        rw [← e]
        simp (disch := omega) only [brn_if, grd_if, ↓bnd_some, bnd_some, bnd_if, bnd_none, J_at, I_add, I_sub, I_mul, I_neg, lit_0, lit_1, lit_2, lit_3, lit_4, lit_5, lit_6, lit_7, lit_8, lit_9, lit_10, lit_11, lit_12, lit_13, lit_14, lit_20, lit_23, lit_24, lit_32, lit_33, lit_35, lit_40, lit_43, lit_45, lit_46, lit_47, lit_48, lit_49, lit_50, lit_57, lit_58, lit_59, lit_60, lit_61, lit_63, lit_64, lit_77, lit_95, lit_98, lit_99, lit_101, lit_104, lit_111, lit_112, lit_114, lit_116, lit_122, lit_127, lit_139, lit_147, lit_180, lit_255, lit_1000, lit_1029, I_lt, I_le, I_eq, I_cl, I_inb, if_pos, if_neg, eq_self, Bool.false_eq_true, ite_true, ite_false, Int.zero_add, Int.add_zero]
      have e0 : I 3 = I c := congrArg (fun o : Int32 × Int32 × Int32 => o.1) (Option.some.inj e9)
      have e6 : I 3 = rn := congrArg (fun o : Int32 × Int32 × Int32 => o.2.1) (Option.some.inj e9)
      rw [I_eq (by omega) (by omega) (by omega) (by omega)] at e0
      exact ⟨by omega, Or.inr e6.symm⟩
  · rw [hb, bI_t] at k1
    rw [x_cell_p (by omega) e1, x_hour_p (by omega) e2, x_hour_p (by omega) e3, k1] at e
    have e9 : some (I 3, I 2, I a) = some (I c, rn, rd) := by
      rw [← e]
      simp (disch := omega) only [brn_if, grd_if, ↓bnd_some, bnd_some, bnd_if, bnd_none, J_at, I_add, I_sub, I_mul, I_neg, lit_0, lit_1, lit_2, lit_3, lit_4, lit_5, lit_6, lit_7, lit_8, lit_9, lit_10, lit_11, lit_12, lit_13, lit_14, lit_20, lit_23, lit_24, lit_32, lit_33, lit_35, lit_40, lit_43, lit_45, lit_46, lit_47, lit_48, lit_49, lit_50, lit_57, lit_58, lit_59, lit_60, lit_61, lit_63, lit_64, lit_77, lit_95, lit_98, lit_99, lit_101, lit_104, lit_111, lit_112, lit_114, lit_116, lit_122, lit_127, lit_139, lit_147, lit_180, lit_255, lit_1000, lit_1029, I_lt, I_le, I_eq, I_cl, I_inb, if_pos, if_neg, eq_self, Bool.false_eq_true, ite_true, ite_false, Int.zero_add, Int.add_zero]
    have e0 : I 3 = I c := congrArg (fun o : Int32 × Int32 × Int32 => o.1) (Option.some.inj e9)
    have e6 : I 2 = rn := congrArg (fun o : Int32 × Int32 × Int32 => o.2.1) (Option.some.inj e9)
    rw [I_eq (by omega) (by omega) (by omega) (by omega)] at e0
    exact ⟨by omega, Or.inl e6.symm⟩
theorem psi_block (h : WF b σ) (T : TR σ v) {a c : Int} (e1 : 0 ≤ a ∧ a ≤ 63) (e4 : hOn σ a = -1) (hc : c = 2 ∨ c = 3) (e : F_X9_judgeBlock (I a) (I (σ 2)) (v.2 0) xn xd = some (I c, rn, rd)) : False := by
  have hn := h.n
  have k3 := x_hOn h T.a0 (show InR a by omega)
  unfold F_X9_judgeBlock F_X6_refuse at e
  rw [x_cell_p (by omega) e1, k3, e4] at e
  have e9 : some (I 0, xn, xd) = some (I c, rn, rd) := by
    rw [← e]
    simp (disch := omega) only [brn_if, grd_if, ↓bnd_some, bnd_some, bnd_if, bnd_none, J_at, I_add, I_sub, I_mul, I_neg, lit_0, lit_1, lit_2, lit_3, lit_4, lit_5, lit_6, lit_7, lit_8, lit_9, lit_10, lit_11, lit_12, lit_13, lit_14, lit_20, lit_23, lit_24, lit_32, lit_33, lit_35, lit_40, lit_43, lit_45, lit_46, lit_47, lit_48, lit_49, lit_50, lit_57, lit_58, lit_59, lit_60, lit_61, lit_63, lit_64, lit_77, lit_95, lit_98, lit_99, lit_101, lit_104, lit_111, lit_112, lit_114, lit_116, lit_122, lit_127, lit_139, lit_147, lit_180, lit_255, lit_1000, lit_1029, I_lt, I_le, I_eq, I_cl, I_inb, if_pos, if_neg, eq_self, Bool.false_eq_true, ite_true, ite_false, Int.zero_add, Int.add_zero]
  have e0 : I 0 = I c := congrArg (fun o : Int32 × Int32 × Int32 => o.1) (Option.some.inj e9)
  rw [I_eq (by omega) (by omega) (by omega) (by omega)] at e0
  omega
theorem psi_post (h : WF b σ) (T : TR σ v) {a c : Int} (e1 : 0 ≤ a ∧ a ≤ 63) (e5 : σ 4 < 4) (hc : c = 2 ∨ c = 3) (e : F_X9_judgePost (I a) (I (σ 4)) (v.2 8) (v.2 10) xn xd = some (I c, rn, rd)) : c = 3 ∧ (rn = I 2 ∨ rn = I 7) := by
  have hn := h.q
  have ho := pOn_in h a
  have k1 := x_isBlocked h T.a10 e1.1 e1.2
  have k3 := x_pOn h T.a8 (show InR a by omega)
  unfold F_X9_judgePost F_X5_isFull F_X6_refuse at e
  cases hb : blkB σ a
  · rw [hb, bI_f] at k1
    by_cases e4 : pOn σ a = -1
    · rw [x_cell_p (by omega) e1, k1, k3, e4] at e
      have e9 : some (I 0, xn, xd) = some (I c, rn, rd) := by
        rw [← e]
        simp (disch := omega) only [brn_if, grd_if, ↓bnd_some, bnd_some, bnd_if, bnd_none, J_at, I_add, I_sub, I_mul, I_neg, lit_0, lit_1, lit_2, lit_3, lit_4, lit_5, lit_6, lit_7, lit_8, lit_9, lit_10, lit_11, lit_12, lit_13, lit_14, lit_20, lit_23, lit_24, lit_32, lit_33, lit_35, lit_40, lit_43, lit_45, lit_46, lit_47, lit_48, lit_49, lit_50, lit_57, lit_58, lit_59, lit_60, lit_61, lit_63, lit_64, lit_77, lit_95, lit_98, lit_99, lit_101, lit_104, lit_111, lit_112, lit_114, lit_116, lit_122, lit_127, lit_139, lit_147, lit_180, lit_255, lit_1000, lit_1029, I_lt, I_le, I_eq, I_cl, I_inb, if_pos, if_neg, eq_self, Bool.false_eq_true, ite_true, ite_false, Int.zero_add, Int.add_zero]
      have e0 : I 0 = I c := congrArg (fun o : Int32 × Int32 × Int32 => o.1) (Option.some.inj e9)
      rw [I_eq (by omega) (by omega) (by omega) (by omega)] at e0
      omega
    · rw [x_cell_p (by omega) e1, k1, k3] at e
      have e9 : some (I 3, I 7, I (pOn σ a)) = some (I c, rn, rd) := by
        rw [← e]
        simp (disch := omega) only [brn_if, grd_if, ↓bnd_some, bnd_some, bnd_if, bnd_none, J_at, I_add, I_sub, I_mul, I_neg, lit_0, lit_1, lit_2, lit_3, lit_4, lit_5, lit_6, lit_7, lit_8, lit_9, lit_10, lit_11, lit_12, lit_13, lit_14, lit_20, lit_23, lit_24, lit_32, lit_33, lit_35, lit_40, lit_43, lit_45, lit_46, lit_47, lit_48, lit_49, lit_50, lit_57, lit_58, lit_59, lit_60, lit_61, lit_63, lit_64, lit_77, lit_95, lit_98, lit_99, lit_101, lit_104, lit_111, lit_112, lit_114, lit_116, lit_122, lit_127, lit_139, lit_147, lit_180, lit_255, lit_1000, lit_1029, I_lt, I_le, I_eq, I_cl, I_inb, if_pos, if_neg, eq_self, Bool.false_eq_true, ite_true, ite_false, Int.zero_add, Int.add_zero]
      have e0 : I 3 = I c := congrArg (fun o : Int32 × Int32 × Int32 => o.1) (Option.some.inj e9)
      have e6 : I 7 = rn := congrArg (fun o : Int32 × Int32 × Int32 => o.2.1) (Option.some.inj e9)
      rw [I_eq (by omega) (by omega) (by omega) (by omega)] at e0
      exact ⟨by omega, Or.inr e6.symm⟩
  · rw [hb, bI_t] at k1
    rw [x_cell_p (by omega) e1, k1] at e
    have e9 : some (I 3, I 2, I a) = some (I c, rn, rd) := by
      rw [← e]
      simp (disch := omega) only [brn_if, grd_if, ↓bnd_some, bnd_some, bnd_if, bnd_none, J_at, I_add, I_sub, I_mul, I_neg, lit_0, lit_1, lit_2, lit_3, lit_4, lit_5, lit_6, lit_7, lit_8, lit_9, lit_10, lit_11, lit_12, lit_13, lit_14, lit_20, lit_23, lit_24, lit_32, lit_33, lit_35, lit_40, lit_43, lit_45, lit_46, lit_47, lit_48, lit_49, lit_50, lit_57, lit_58, lit_59, lit_60, lit_61, lit_63, lit_64, lit_77, lit_95, lit_98, lit_99, lit_101, lit_104, lit_111, lit_112, lit_114, lit_116, lit_122, lit_127, lit_139, lit_147, lit_180, lit_255, lit_1000, lit_1029, I_lt, I_le, I_eq, I_cl, I_inb, if_pos, if_neg, eq_self, Bool.false_eq_true, ite_true, ite_false, Int.zero_add, Int.add_zero]
    have e0 : I 3 = I c := congrArg (fun o : Int32 × Int32 × Int32 => o.1) (Option.some.inj e9)
    have e6 : I 2 = rn := congrArg (fun o : Int32 × Int32 × Int32 => o.2.1) (Option.some.inj e9)
    rw [I_eq (by omega) (by omega) (by omega) (by omega)] at e0
    exact ⟨by omega, Or.inl e6.symm⟩
theorem psi_hall (h : WF b σ) (T : TR σ v) {r l c : Int} {k : Nat} (e1 : 0 ≤ r ∧ r ≤ 7) (e2 : (k : Int) ≤ l) (e3 : l ≤ 7) (e5 : σ 3 < 4) (e4 : ∀ i : Nat, k ≤ i → (i : Int) ≤ l → lOn σ (8 * r + i) < 0) (hc : c = 2 ∨ c = 3) (e : F_X9_judgeHall (I r) (I k) (I l) (I (σ 3)) (v.2 5) (v.2 6) (v.2 7) xn xd = some (I c, rn, rd)) : False := by
  have hn := h.m
  have gx := x_hallL (v := v) (rn := xn) (rd := xd) h T e1 e3 (I k) (l + 1 - k).toNat k 100 (by omega) (by omega)
  have hx : F_X9_judgeHall (I r) (I k) (I l) (I (σ 3)) (v.2 5) (v.2 6) (v.2 7) xn xd = L_X9_judgeHall_31 (I r) (I k) (I l) (I (σ 3)) (v.2 5) (v.2 6) (v.2 7) 100 (I k) xn xd := by
    unfold F_X9_judgeHall
    rw [x_lane_p (by omega) e1, bnd_some, brn_neg _ _ (by decide), x_lane_p (by omega) (by omega), bnd_some, brn_neg _ _ (by decide), x_lane_p (by omega) (by omega), bnd_some, brn_neg _ _ (by decide), brn_pos _ _ (by rw [I_le (by omega) (by omega) (by omega) (by omega)]; omega)]
  have hf : fIx (hallP σ r) (l + 1 - k).toNat k = -1 := by
    rcases fIx_sp (hallP σ r) (l + 1 - k).toNat k with ⟨g, -⟩ | ⟨i, g1, g2, g3, g4, g5⟩
    · exact g
    · have g9 := e4 i (by omega) (by omega)
      exfalso
      first
        | exact absurd (of_decide_eq_true g4) (by omega)
        | exact absurd (of_decide_eq_true g3) (by omega)
        | exact absurd (of_decide_eq_true g5) (by omega)
        | exact absurd (of_decide_eq_true g1) (by omega)
        | exact absurd (of_decide_eq_true g2) (by omega)
  rw [hx, gx, if_pos hf, if_pos e5] at e
  have e0 : I 0 = I c := congrArg (fun o : Int32 × Int32 × Int32 => o.1) (Option.some.inj e)
  rw [I_eq (by omega) (by omega) (by omega) (by omega)] at e0
  omega
theorem psi_tell (h : WF b σ) (T : TR σ v) {p t c : Int} (e1 : 0 ≤ p ∧ p < σ 4) (e2 : 0 ≤ t ∧ t ≤ 14) (hc : c = 1 ∨ c = 2 ∨ c = 3) (e : F_X9_judgeTell (I p) (I t) (I (σ 8 - 1)) (I (σ 4)) (v.2 9) (v.2 11) xn xd = some (I c, rn, rd)) : c = 3 := by
  have hn := h.q
  have hl := h.look
  have lit14x : F_X11_isWithin (I t) 0 14 = F_X11_isWithin (I t) (I 0) (I 14) := by rw [lit_0, lit_14]
  unfold F_X9_judgeTell F_X9_hasPrank F_X6_refuse at e
  obtain ⟨i, rfl⟩ := Int.eq_ofNat_of_zero_le e1.1
  have kt := x_told h T.a9 (j := i) e1.2
  have hpo := h.post (j := i) e1.2
  rw [x5_has_p (by omega) (by omega) e1, lit14x, I_in (by omega) (by omega) (by omega) e2] at e
  have k3 : F_X9_countKind 3 (v.2 11) = some (I (σ 12)) := by
    unfold F_X9_countKind
    rw [lit_3, show (3 : Int) = ((3 : Nat) : Int) from rfl, x_at4 T.a11 (i := 3) (by omega) (by omega), bnd_some]
  by_cases e3 : σ 8 = 0
  · rw [k3] at e
    have e9 : some (I 3, I 5, I (σ 12)) = some (I c, rn, rd) := by
      rw [← e]
      simp (disch := omega) only [brn_if, grd_if, ↓bnd_some, bnd_some, bnd_if, bnd_none, J_at, I_add, I_sub, I_mul, I_neg, lit_0, lit_1, lit_2, lit_3, lit_4, lit_5, lit_6, lit_7, lit_8, lit_9, lit_10, lit_11, lit_12, lit_13, lit_14, lit_20, lit_23, lit_24, lit_32, lit_33, lit_35, lit_40, lit_43, lit_45, lit_46, lit_47, lit_48, lit_49, lit_50, lit_57, lit_58, lit_59, lit_60, lit_61, lit_63, lit_64, lit_77, lit_95, lit_98, lit_99, lit_101, lit_104, lit_111, lit_112, lit_114, lit_116, lit_122, lit_127, lit_139, lit_147, lit_180, lit_255, lit_1000, lit_1029, I_lt, I_le, I_eq, I_cl, I_inb, if_pos, if_neg, eq_self, Bool.false_eq_true, ite_true, ite_false, Int.zero_add, Int.add_zero, m1]
    have e0 : I 3 = I c := congrArg (fun o : Int32 × Int32 × Int32 => o.1) (Option.some.inj e9)
    rw [I_eq (by omega) (by omega) (by omega) (by omega)] at e0
    omega
  · rw [kt] at e
    by_cases e4 : σ (140 + 2 * i) = t
    · have e9 : some (I 3, I 6, I t) = some (I c, rn, rd) := by
        rw [← e]
        simp (disch := omega) only [brn_if, grd_if, ↓bnd_some, bnd_some, bnd_if, bnd_none, J_at, I_add, I_sub, I_mul, I_neg, lit_0, lit_1, lit_2, lit_3, lit_4, lit_5, lit_6, lit_7, lit_8, lit_9, lit_10, lit_11, lit_12, lit_13, lit_14, lit_20, lit_23, lit_24, lit_32, lit_33, lit_35, lit_40, lit_43, lit_45, lit_46, lit_47, lit_48, lit_49, lit_50, lit_57, lit_58, lit_59, lit_60, lit_61, lit_63, lit_64, lit_77, lit_95, lit_98, lit_99, lit_101, lit_104, lit_111, lit_112, lit_114, lit_116, lit_122, lit_127, lit_139, lit_147, lit_180, lit_255, lit_1000, lit_1029, I_lt, I_le, I_eq, I_cl, I_inb, if_pos, if_neg, eq_self, Bool.false_eq_true, ite_true, ite_false, Int.zero_add, Int.add_zero, m1]
      have e0 : I 3 = I c := congrArg (fun o : Int32 × Int32 × Int32 => o.1) (Option.some.inj e9)
      rw [I_eq (by omega) (by omega) (by omega) (by omega)] at e0
      omega
    · have e9 : some (I 0, xn, xd) = some (I c, rn, rd) := by
        rw [← e]
        simp (disch := omega) only [brn_if, grd_if, ↓bnd_some, bnd_some, bnd_if, bnd_none, J_at, I_add, I_sub, I_mul, I_neg, lit_0, lit_1, lit_2, lit_3, lit_4, lit_5, lit_6, lit_7, lit_8, lit_9, lit_10, lit_11, lit_12, lit_13, lit_14, lit_20, lit_23, lit_24, lit_32, lit_33, lit_35, lit_40, lit_43, lit_45, lit_46, lit_47, lit_48, lit_49, lit_50, lit_57, lit_58, lit_59, lit_60, lit_61, lit_63, lit_64, lit_77, lit_95, lit_98, lit_99, lit_101, lit_104, lit_111, lit_112, lit_114, lit_116, lit_122, lit_127, lit_139, lit_147, lit_180, lit_255, lit_1000, lit_1029, I_lt, I_le, I_eq, I_cl, I_inb, if_pos, if_neg, eq_self, Bool.false_eq_true, ite_true, ite_false, Int.zero_add, Int.add_zero, m1]
      have e0 : I 0 = I c := congrArg (fun o : Int32 × Int32 × Int32 => o.1) (Option.some.inj e9)
      rw [I_eq (by omega) (by omega) (by omega) (by omega)] at e0
      omega
theorem psi_tell0 (h : WF b σ) (T : TR σ v) {p t : Int} (e1 : 0 ≤ p ∧ p < σ 4) (e2 : 0 ≤ t ∧ t ≤ 14) (e : F_X9_judgeTell (I p) (I t) (I (σ 8 - 1)) (I (σ 4)) (v.2 9) (v.2 11) xn xd = some (I 0, rn, rd)) : σ 8 ≠ 0 := by
  intro e3
  have hn := h.q
  have hl := h.look
  have lit14x : F_X11_isWithin (I t) 0 14 = F_X11_isWithin (I t) (I 0) (I 14) := by rw [lit_0, lit_14]
  unfold F_X9_judgeTell F_X9_hasPrank F_X6_refuse at e
  rw [x5_has_p (by omega) (by omega) e1, lit14x, I_in (by omega) (by omega) (by omega) e2] at e
  have k3 : F_X9_countKind 3 (v.2 11) = some (I (σ 12)) := by
    unfold F_X9_countKind
    rw [lit_3, show (3 : Int) = ((3 : Nat) : Int) from rfl, x_at4 T.a11 (i := 3) (by omega) (by omega), bnd_some]
  rw [k3] at e
  have e9 : some (I 3, I 5, I (σ 12)) = some (I 0, rn, rd) := by
    rw [← e]
    simp (disch := omega) only [brn_if, grd_if, ↓bnd_some, bnd_some, bnd_if, bnd_none, J_at, I_add, I_sub, I_mul, I_neg, lit_0, lit_1, lit_2, lit_3, lit_4, lit_5, lit_6, lit_7, lit_8, lit_9, lit_10, lit_11, lit_12, lit_13, lit_14, lit_20, lit_23, lit_24, lit_32, lit_33, lit_35, lit_40, lit_43, lit_45, lit_46, lit_47, lit_48, lit_49, lit_50, lit_57, lit_58, lit_59, lit_60, lit_61, lit_63, lit_64, lit_77, lit_95, lit_98, lit_99, lit_101, lit_104, lit_111, lit_112, lit_114, lit_116, lit_122, lit_127, lit_139, lit_147, lit_180, lit_255, lit_1000, lit_1029, I_lt, I_le, I_eq, I_cl, I_inb, if_pos, if_neg, eq_self, Bool.false_eq_true, ite_true, ite_false, Int.zero_add, Int.add_zero, m1]
  have e0 : I 3 = I 0 := congrArg (fun o : Int32 × Int32 × Int32 => o.1) (Option.some.inj e9)
  rw [I_eq (by omega) (by omega) (by omega) (by omega)] at e0
  omega
end JX
