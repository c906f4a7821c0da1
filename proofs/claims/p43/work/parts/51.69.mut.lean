/-! ===== calls that change a town: houses ===== -/
def RQ (rn rd mr md : Int32) : Prop := rn = -1 ∧ mr = 0 ∨ rn = mr ∧ rd = md ∧ ∃ r : Int, 0 < r ∧ r < 100 ∧ rn = I r
/-- refused by both; cs: the class's code with the reference's number -/
def JB (cs : List (Int × Int)) (mi0 : Int32) (σ : Nat → Int) (j : Option (Int32 × Int32 × Int32)) (r : Option (Int32 × Int32 × Int32 × Int32 × Int32 × (Nat → Int32))) : Prop := ∃ c t rn rd mr md mi, (c, t) ∈ cs ∧ j = some (I c, rn, rd) ∧ r = some (0, I t, mr, md, mi, J σ) ∧ RQ rn rd mr md ∧ (c = 3 ∧ mi = I 1 ∨ c ≠ 3 ∧ mi = mi0)
theorem RQ_new {r d : Int} (h1 : 0 < r) (h2 : r < 100) : RQ (I r) (I d) (I r) (I d) := Or.inr ⟨rfl, rfl, r, h1, h2, rfl⟩
section MUT
variable {b : Int} {σ : Nat → Int} {v : TVal} {rn rd mr md : Int32}
theorem bI_n0 (c : Bool) : (bI c = 0) = (c = false) := bI_0 c
def houseS (σ : Nat → Int) (a f g : Int) : Nat → Int := U (U (U (U (U (U σ (77 + 5 * σ 2).toNat a) (77 + 5 * σ 2 + 1).toNat f) (77 + 5 * σ 2 + 2).toNat g) (77 + 5 * σ 2 + 3).toNat 0) (77 + 5 * σ 2 + 4).toNat 0) 2 (σ 2 + 1)
theorem j_house (h : WF b σ) (T : TR σ v) {a f g : Int} (ha : InR a) (hf : InR f) (hg : InR g) (hq : RQ rn rd mr md) (mi : Int32) :
    JB [(2, 1), (3, 2)] mi σ (F_X9_judgeHouse (I a) (I f) (I g) (I (σ 2)) (v.2 0) (v.2 10) rn rd) (F_X12_doHouse (I a) (I f) (I g) 0 mr md mi (J σ)) ∨
    (F_X9_judgeHouse (I a) (I f) (I g) (I (σ 2)) (v.2 0) (v.2 10) rn rd = some (I 0, rn, rd) ∧ (0 ≤ a ∧ a ≤ 63) ∧ (0 ≤ f ∧ f ≤ 23) ∧ (0 ≤ g ∧ g ≤ 23) ∧ blkB σ a = false ∧ hOn σ a = -1 ∧ σ 2 < 10) := by
  have hn := h.n
  unfold F_X9_judgeHouse F_X12_doHouse J_X12_doHouse_29 F_X12_fails F_X2_isFull F_X6_refuse F_X12_refuse
  by_cases e1 : 0 ≤ a ∧ a ≤ 63
  · by_cases e2 : 0 ≤ f ∧ f ≤ 23
    · by_cases e3 : 0 ≤ g ∧ g ≤ 23
      · have ho := hOn_in h a
        have k1 := x_isBlocked h T.a10 e1.1 e1.2
        have k2 := m_isBlocked h e1.1 e1.2
        have k3 := x_hOn h T.a0 ha
        have k4 := m_houseOn h ha
        cases hb : blkB σ a
        · rw [hb, bI_f] at k1 k2
          by_cases e4 : hOn σ a = -1
          · by_cases e5 : σ 2 < 10
            · refine Or.inr ⟨?_, e1, e2, e3, rfl, e4, e5⟩
              rw [x_cell_p ha e1, x_hour_p hf e2, x_hour_p hg e3, k1, k3, e4]
              simp (disch := omega) only [brn_if, grd_if, ↓bnd_some, bnd_some, bnd_if, bnd_none, J_at, I_add, I_sub, I_mul, I_neg, lit_0, lit_1, lit_2, lit_3, lit_4, lit_5, lit_6, lit_7, lit_8, lit_9, lit_10, lit_11, lit_12, lit_13, lit_14, lit_20, lit_23, lit_24, lit_32, lit_33, lit_35, lit_40, lit_43, lit_45, lit_46, lit_47, lit_48, lit_49, lit_50, lit_57, lit_58, lit_59, lit_60, lit_61, lit_63, lit_64, lit_77, lit_95, lit_98, lit_99, lit_101, lit_104, lit_111, lit_112, lit_114, lit_116, lit_122, lit_127, lit_139, lit_147, lit_180, lit_255, lit_1000, lit_1029, I_lt, I_le, I_eq, I_cl, I_inb, if_pos, if_neg, eq_self, Bool.false_eq_true, ite_true, ite_false, Int.zero_add, Int.add_zero]
            · refine Or.inl ⟨3, 2, I 1, I 10, I 1, I 10, I 1, by decide, ?_, ?_, RQ_new (by omega) (by omega), Or.inl ⟨rfl, rfl⟩⟩
              · rw [x_cell_p ha e1, x_hour_p hf e2, x_hour_p hg e3, k1, k3, e4]
                simp (disch := omega) only [brn_if, grd_if, ↓bnd_some, bnd_some, bnd_if, bnd_none, J_at, I_add, I_sub, I_mul, I_neg, lit_0, lit_1, lit_2, lit_3, lit_4, lit_5, lit_6, lit_7, lit_8, lit_9, lit_10, lit_11, lit_12, lit_13, lit_14, lit_20, lit_23, lit_24, lit_32, lit_33, lit_35, lit_40, lit_43, lit_45, lit_46, lit_47, lit_48, lit_49, lit_50, lit_57, lit_58, lit_59, lit_60, lit_61, lit_63, lit_64, lit_77, lit_95, lit_98, lit_99, lit_101, lit_104, lit_111, lit_112, lit_114, lit_116, lit_122, lit_127, lit_139, lit_147, lit_180, lit_255, lit_1000, lit_1029, I_lt, I_le, I_eq, I_cl, I_inb, if_pos, if_neg, eq_self, Bool.false_eq_true, ite_true, ite_false, Int.zero_add, Int.add_zero]
              · rw [m_cell_p ha e1, m_hour_p hf e2, m_hour_p hg e3, k2, k4, e4]
                simp (disch := omega) only [brn_if, grd_if, ↓bnd_some, bnd_some, bnd_if, bnd_none, J_at, I_add, I_sub, I_mul, I_neg, lit_0, lit_1, lit_2, lit_3, lit_4, lit_5, lit_6, lit_7, lit_8, lit_9, lit_10, lit_11, lit_12, lit_13, lit_14, lit_20, lit_23, lit_24, lit_32, lit_33, lit_35, lit_40, lit_43, lit_45, lit_46, lit_47, lit_48, lit_49, lit_50, lit_57, lit_58, lit_59, lit_60, lit_61, lit_63, lit_64, lit_77, lit_95, lit_98, lit_99, lit_101, lit_104, lit_111, lit_112, lit_114, lit_116, lit_122, lit_127, lit_139, lit_147, lit_180, lit_255, lit_1000, lit_1029, I_lt, I_le, I_eq, I_cl, I_inb, if_pos, if_neg, eq_self, Bool.false_eq_true, ite_true, ite_false, Int.zero_add, Int.add_zero, tn_0]
          · refine Or.inl ⟨3, 2, I 3, I (hOn σ a), I 3, I (hOn σ a), I 1, by decide, ?_, ?_, RQ_new (by omega) (by omega), Or.inl ⟨rfl, rfl⟩⟩
            · rw [x_cell_p ha e1, x_hour_p hf e2, x_hour_p hg e3, k1, k3]
              simp (disch := omega) only [brn_if, grd_if, ↓bnd_some, bnd_some, bnd_if, bnd_none, J_at, I_add, I_sub, I_mul, I_neg, lit_0, lit_1, lit_2, lit_3, lit_4, lit_5, lit_6, lit_7, lit_8, lit_9, lit_10, lit_11, lit_12, lit_13, lit_14, lit_20, lit_23, lit_24, lit_32, lit_33, lit_35, lit_40, lit_43, lit_45, lit_46, lit_47, lit_48, lit_49, lit_50, lit_57, lit_58, lit_59, lit_60, lit_61, lit_63, lit_64, lit_77, lit_95, lit_98, lit_99, lit_101, lit_104, lit_111, lit_112, lit_114, lit_116, lit_122, lit_127, lit_139, lit_147, lit_180, lit_255, lit_1000, lit_1029, I_lt, I_le, I_eq, I_cl, I_inb, if_pos, if_neg, eq_self, Bool.false_eq_true, ite_true, ite_false, Int.zero_add, Int.add_zero]
            · rw [m_cell_p ha e1, m_hour_p hf e2, m_hour_p hg e3, k2, k4]
              simp (disch := omega) only [brn_if, grd_if, ↓bnd_some, bnd_some, bnd_if, bnd_none, J_at, I_add, I_sub, I_mul, I_neg, lit_0, lit_1, lit_2, lit_3, lit_4, lit_5, lit_6, lit_7, lit_8, lit_9, lit_10, lit_11, lit_12, lit_13, lit_14, lit_20, lit_23, lit_24, lit_32, lit_33, lit_35, lit_40, lit_43, lit_45, lit_46, lit_47, lit_48, lit_49, lit_50, lit_57, lit_58, lit_59, lit_60, lit_61, lit_63, lit_64, lit_77, lit_95, lit_98, lit_99, lit_101, lit_104, lit_111, lit_112, lit_114, lit_116, lit_122, lit_127, lit_139, lit_147, lit_180, lit_255, lit_1000, lit_1029, I_lt, I_le, I_eq, I_cl, I_inb, if_pos, if_neg, eq_self, Bool.false_eq_true, ite_true, ite_false, Int.zero_add, Int.add_zero, tn_0]
        · rw [hb, bI_t] at k1 k2
          refine Or.inl ⟨3, 2, I 2, I a, I 2, I a, I 1, by decide, ?_, ?_, RQ_new (by omega) (by omega), Or.inl ⟨rfl, rfl⟩⟩
          · rw [x_cell_p ha e1, x_hour_p hf e2, x_hour_p hg e3, k1]
            simp (disch := omega) only [brn_if, grd_if, ↓bnd_some, bnd_some, bnd_if, bnd_none, J_at, I_add, I_sub, I_mul, I_neg, lit_0, lit_1, lit_2, lit_3, lit_4, lit_5, lit_6, lit_7, lit_8, lit_9, lit_10, lit_11, lit_12, lit_13, lit_14, lit_20, lit_23, lit_24, lit_32, lit_33, lit_35, lit_40, lit_43, lit_45, lit_46, lit_47, lit_48, lit_49, lit_50, lit_57, lit_58, lit_59, lit_60, lit_61, lit_63, lit_64, lit_77, lit_95, lit_98, lit_99, lit_101, lit_104, lit_111, lit_112, lit_114, lit_116, lit_122, lit_127, lit_139, lit_147, lit_180, lit_255, lit_1000, lit_1029, I_lt, I_le, I_eq, I_cl, I_inb, if_pos, if_neg, eq_self, Bool.false_eq_true, ite_true, ite_false, Int.zero_add, Int.add_zero]
          · rw [m_cell_p ha e1, m_hour_p hf e2, m_hour_p hg e3, k2]
            simp (disch := omega) only [brn_if, grd_if, ↓bnd_some, bnd_some, bnd_if, bnd_none, J_at, I_add, I_sub, I_mul, I_neg, lit_0, lit_1, lit_2, lit_3, lit_4, lit_5, lit_6, lit_7, lit_8, lit_9, lit_10, lit_11, lit_12, lit_13, lit_14, lit_20, lit_23, lit_24, lit_32, lit_33, lit_35, lit_40, lit_43, lit_45, lit_46, lit_47, lit_48, lit_49, lit_50, lit_57, lit_58, lit_59, lit_60, lit_61, lit_63, lit_64, lit_77, lit_95, lit_98, lit_99, lit_101, lit_104, lit_111, lit_112, lit_114, lit_116, lit_122, lit_127, lit_139, lit_147, lit_180, lit_255, lit_1000, lit_1029, I_lt, I_le, I_eq, I_cl, I_inb, if_pos, if_neg, eq_self, Bool.false_eq_true, ite_true, ite_false, Int.zero_add, Int.add_zero]
      · refine Or.inl ⟨2, 1, rn, rd, mr, md, mi, by decide, ?_, ?_, hq, Or.inr ⟨by decide, rfl⟩⟩
        · rw [x_cell_p ha e1, x_hour_p hf e2, x_hour_n hg e3]
          simp (disch := omega) only [brn_if, grd_if, ↓bnd_some, bnd_some, bnd_if, bnd_none, J_at, I_add, I_sub, I_mul, I_neg, lit_0, lit_1, lit_2, lit_3, lit_4, lit_5, lit_6, lit_7, lit_8, lit_9, lit_10, lit_11, lit_12, lit_13, lit_14, lit_20, lit_23, lit_24, lit_32, lit_33, lit_35, lit_40, lit_43, lit_45, lit_46, lit_47, lit_48, lit_49, lit_50, lit_57, lit_58, lit_59, lit_60, lit_61, lit_63, lit_64, lit_77, lit_95, lit_98, lit_99, lit_101, lit_104, lit_111, lit_112, lit_114, lit_116, lit_122, lit_127, lit_139, lit_147, lit_180, lit_255, lit_1000, lit_1029, I_lt, I_le, I_eq, I_cl, I_inb, if_pos, if_neg, eq_self, Bool.false_eq_true, ite_true, ite_false, Int.zero_add, Int.add_zero]
        · rw [m_cell_p ha e1, m_hour_p hf e2, m_hour_n hg e3]
          simp (disch := omega) only [brn_if, grd_if, ↓bnd_some, bnd_some, bnd_if, bnd_none, J_at, I_add, I_sub, I_mul, I_neg, lit_0, lit_1, lit_2, lit_3, lit_4, lit_5, lit_6, lit_7, lit_8, lit_9, lit_10, lit_11, lit_12, lit_13, lit_14, lit_20, lit_23, lit_24, lit_32, lit_33, lit_35, lit_40, lit_43, lit_45, lit_46, lit_47, lit_48, lit_49, lit_50, lit_57, lit_58, lit_59, lit_60, lit_61, lit_63, lit_64, lit_77, lit_95, lit_98, lit_99, lit_101, lit_104, lit_111, lit_112, lit_114, lit_116, lit_122, lit_127, lit_139, lit_147, lit_180, lit_255, lit_1000, lit_1029, I_lt, I_le, I_eq, I_cl, I_inb, if_pos, if_neg, eq_self, Bool.false_eq_true, ite_true, ite_false, Int.zero_add, Int.add_zero]
    · refine Or.inl ⟨2, 1, rn, rd, mr, md, mi, by decide, ?_, ?_, hq, Or.inr ⟨by decide, rfl⟩⟩
      · rw [x_cell_p ha e1, x_hour_n hf e2]
        simp (disch := omega) only [brn_if, grd_if, ↓bnd_some, bnd_some, bnd_if, bnd_none, J_at, I_add, I_sub, I_mul, I_neg, lit_0, lit_1, lit_2, lit_3, lit_4, lit_5, lit_6, lit_7, lit_8, lit_9, lit_10, lit_11, lit_12, lit_13, lit_14, lit_20, lit_23, lit_24, lit_32, lit_33, lit_35, lit_40, lit_43, lit_45, lit_46, lit_47, lit_48, lit_49, lit_50, lit_57, lit_58, lit_59, lit_60, lit_61, lit_63, lit_64, lit_77, lit_95, lit_98, lit_99, lit_101, lit_104, lit_111, lit_112, lit_114, lit_116, lit_122, lit_127, lit_139, lit_147, lit_180, lit_255, lit_1000, lit_1029, I_lt, I_le, I_eq, I_cl, I_inb, if_pos, if_neg, eq_self, Bool.false_eq_true, ite_true, ite_false, Int.zero_add, Int.add_zero]
      · rw [grd_pos _ (by decide), m_cell_p ha e1, bnd_some, brn_neg _ _ (by decide), m_hour_n hf e2, bnd_some, brn_pos _ _ (by decide)]
        rfl
  · refine Or.inl ⟨2, 1, rn, rd, mr, md, mi, by decide, ?_, ?_, hq, Or.inr ⟨by decide, rfl⟩⟩
    · rw [x_cell_n ha e1]
      simp (disch := omega) only [brn_if, grd_if, ↓bnd_some, bnd_some, bnd_if, bnd_none, J_at, I_add, I_sub, I_mul, I_neg, lit_0, lit_1, lit_2, lit_3, lit_4, lit_5, lit_6, lit_7, lit_8, lit_9, lit_10, lit_11, lit_12, lit_13, lit_14, lit_20, lit_23, lit_24, lit_32, lit_33, lit_35, lit_40, lit_43, lit_45, lit_46, lit_47, lit_48, lit_49, lit_50, lit_57, lit_58, lit_59, lit_60, lit_61, lit_63, lit_64, lit_77, lit_95, lit_98, lit_99, lit_101, lit_104, lit_111, lit_112, lit_114, lit_116, lit_122, lit_127, lit_139, lit_147, lit_180, lit_255, lit_1000, lit_1029, I_lt, I_le, I_eq, I_cl, I_inb, if_pos, if_neg, eq_self, Bool.false_eq_true, ite_true, ite_false, Int.zero_add, Int.add_zero]
    · rw [grd_pos _ (by decide), m_cell_n ha e1, bnd_some, brn_pos _ _ (by decide)]
      rfl
theorem d_house_m (h : WF b σ) {a f g : Int} (e1 : 0 ≤ a ∧ a ≤ 63) (e2 : 0 ≤ f ∧ f ≤ 23) (e3 : 0 ≤ g ∧ g ≤ 23) (e4 : blkB σ a = false) (e5 : hOn σ a = -1) (e6 : σ 2 < 10) (mi : Int32) : F_X12_doHouse (I a) (I f) (I g) 0 mr md mi (J σ) = some (I (σ 2), I 0, mr, md, mi, J (houseS σ a f g)) := by
  have hn := h.n
  have k2 := m_isBlocked h e1.1 e1.2
  have k4 := m_houseOn h (show InR a by omega)
  rw [e4, bI_f] at k2
  rw [e5] at k4
  unfold F_X12_doHouse F_X12_at houseS
  rw [m_cell_p (by omega) e1, m_hour_p (by omega) e2, m_hour_p (by omega) e3, k2, k4]
  simp (disch := omega) only [brn_if, grd_if, ↓bnd_some, bnd_some, bnd_if, bnd_none, J_at, I_add, I_sub, I_mul, I_neg, lit_0, lit_1, lit_2, lit_3, lit_4, lit_5, lit_6, lit_7, lit_8, lit_9, lit_10, lit_11, lit_12, lit_13, lit_14, lit_20, lit_23, lit_24, lit_32, lit_33, lit_35, lit_40, lit_43, lit_45, lit_46, lit_47, lit_48, lit_49, lit_50, lit_57, lit_58, lit_59, lit_60, lit_61, lit_63, lit_64, lit_77, lit_95, lit_98, lit_99, lit_101, lit_104, lit_111, lit_112, lit_114, lit_116, lit_122, lit_127, lit_139, lit_147, lit_180, lit_255, lit_1000, lit_1029, I_lt, I_le, I_eq, I_cl, I_inb, if_pos, if_neg, eq_self, Bool.false_eq_true, ite_true, ite_false, Int.zero_add, Int.add_zero, tn_0, J_upd, U_ne]
theorem d_house_x (h : WF b σ) {a f g : Int} (r0 r1 r2 r3 r4 : Nat → Int32) (e6 : σ 2 < 10) : F_X2_add (I a) (I f) (I g) (I (σ 2)) r0 r1 r2 r3 r4 = some (I (σ 2), I (σ 2 + 1), upd r0 (σ 2).toNat (I a), upd r1 (σ 2).toNat (I f), upd r2 (σ 2).toNat (I g), upd r3 (σ 2).toNat (I 0), upd r4 (σ 2).toNat (I 0)) := by
  have hn := h.n
  obtain ⟨n, e⟩ := Int.eq_ofNat_of_zero_le hn.1
  unfold F_X2_add
  rw [e]
  have p := fun (r : Nat → Int32) (z : Int32) => x_put (N := 10) (by decide) (a := r) (i := n) (by omega) z
  simp only [p, bnd_some, lit_0, lit_1, I_add]
  rfl
theorem d_house_w (h : WF b σ) (hb : 0 ≤ b) (T : TR σ v) {a f g : Int} (e1 : 0 ≤ a ∧ a ≤ 63) (e2 : 0 ≤ f ∧ f ≤ 23) (e3 : 0 ≤ g ∧ g ≤ 23) (e5 : hOn σ a = -1) (e6 : σ 2 < 10) :
    WF b (houseS σ a f g) ∧ TR (houseS σ a f g) (tvMk (v.1 0) (v.1 1) (v.1 2) (v.1 3) (v.1 4) (v.1 5) (I (σ 2 + 1)) (v.1 7) (v.1 8) (upd (v.2 0) (σ 2).toNat (I a)) (upd (v.2 1) (σ 2).toNat (I f)) (upd (v.2 2) (σ 2).toNat (I g)) (upd (v.2 3) (σ 2).toNat (I 0)) (upd (v.2 4) (σ 2).toNat (I 0)) (v.2 5) (v.2 6) (v.2 7) (v.2 8) (v.2 9) (v.2 10) (v.2 11)) := by
  have hn := h.n
  have he : ∀ k : Nat, k < 147 → k ≠ 2 → ¬ (77 ≤ k ∧ k < 127) → houseS σ a f g k = σ k := by
    intro k h1 h2 h3
    unfold houseS
    simp (disch := omega) only [U_ne]
  have h2 : houseS σ a f g 2 = σ 2 + 1 := by unfold houseS; exact U_same _ _ _
  have hO : ∀ i : Nat, (i : Int) < σ 2 → houseS σ a f g (77 + 5 * i) = σ (77 + 5 * i) ∧ houseS σ a f g (78 + 5 * i) = σ (78 + 5 * i) ∧ houseS σ a f g (79 + 5 * i) = σ (79 + 5 * i) ∧ houseS σ a f g (80 + 5 * i) = σ (80 + 5 * i) ∧ houseS σ a f g (81 + 5 * i) = σ (81 + 5 * i) := by
    intro i hi
    unfold houseS
    simp (disch := omega) only [U_ne, and_self]
  have hN : ∀ i : Nat, (i : Int) = σ 2 → houseS σ a f g (77 + 5 * i) = a ∧ houseS σ a f g (78 + 5 * i) = f ∧ houseS σ a f g (79 + 5 * i) = g ∧ houseS σ a f g (80 + 5 * i) = 0 ∧ houseS σ a f g (81 + 5 * i) = 0 := by
    intro i hi
    unfold houseS
    simp (disch := omega) only [U, if_pos, if_neg, and_self]
  have nw : ∀ i : Nat, (i : Int) < σ 2 → σ (77 + 5 * i) ≠ a := by
    intro i hi ha
    rcases lIx_sp (fun i => decide (σ (77 + 5 * i) = a)) (σ 2).toNat 0 (-1) with ⟨-, g2⟩ | ⟨j, g1, g2, g3, g4⟩
    · have := g2 i (by omega) (by omega)
      simp only [decide_eq_false_iff_not] at this
      exact this ha
    · have : hOn σ a = j := g4
      omega
  refine ⟨WF_house h ?_ he (by rw [h2]; omega) ?_ ?_, TR_house h T he (by rw [h2]) ?_ ?_ ?_ ?_ ?_⟩
  · exact U_r (U_r (U_r (U_r (U_r (U_r h.r (by omega)) (by omega)) (by omega)) (by omega)) (by omega)) (by omega)
  · intro i hi
    rw [h2] at hi
    by_cases e : (i : Int) = σ 2
    · obtain ⟨q1, q2, q3, q4, q5⟩ := hN i e
      rw [q1, q2, q3, q4, q5]
      exact ⟨e1, e2, e3, ⟨by omega, hb⟩, ⟨by omega, hb⟩⟩
    · obtain ⟨q1, q2, q3, q4, q5⟩ := hO i (by omega)
      rw [q1, q2, q3, q4, q5]
      exact h.house (by omega)
  · intro i j hi hj
    rw [h2] at hi hj
    by_cases e : (i : Int) = σ 2
    · by_cases e' : (j : Int) = σ 2
      · intro _; omega
      · rw [(hN i e).1, (hO j (by omega)).1]
        exact fun q => absurd q.symm (nw j (by omega))
    · by_cases e' : (j : Int) = σ 2
      · rw [(hO i (by omega)).1, (hN j e').1]
        exact fun q => absurd q (nw i (by omega))
      · rw [(hO i (by omega)).1, (hO j (by omega)).1]
        exact h.one (by omega) (by omega)
  · rw [h2]; exact AR_app T.a0 hn.1 (fun i hi => (hO i hi).1) (hN _ (by omega)).1
  · rw [h2]; exact AR_app T.a1 hn.1 (fun i hi => (hO i hi).2.1) (hN _ (by omega)).2.1
  · rw [h2]; exact AR_app T.a2 hn.1 (fun i hi => (hO i hi).2.2.1) (hN _ (by omega)).2.2.1
  · rw [h2]; exact AR_app T.a3 hn.1 (fun i hi => (hO i hi).2.2.2.1) (hN _ (by omega)).2.2.2.1
  · rw [h2]; exact AR_app T.a4 hn.1 (fun i hi => (hO i hi).2.2.2.2) (hN _ (by omega)).2.2.2.2
end MUT
section OP2
variable {b : Int} {x : XVal} {y : MVal}
theorem x_dFi {c : Int} (h : c = 1 ∨ c = 2 ∨ c = 3) : F_X11_demandFine (I c) = some c.toNat ∧ c.toNat ≠ 0 := by
  rcases h with rfl | rfl | rfl
  · exact ⟨x_dFi1, by decide⟩
  · exact ⟨x_dFi2, by decide⟩
  · exact ⟨x_dFi3, by decide⟩
theorem op_house (hR : Rel b x y) (hb : 0 ≤ b) (p1 p2 p3 : Int32) : OPK [(0, 0), (2, 1), (3, 2)] b (G_house p1 p2 p3 x) (H_house p1 p2 p3 y) := by
  obtain ⟨σ, π, n, e, ⟨hw, hs, T⟩, hK, ⟨h28, h29, hm, hp, hP⟩, hQ, hO, hS⟩ := hR
  obtain ⟨a, ha, rfl⟩ := I_ex p1
  obtain ⟨f, hf, rfl⟩ := I_ex p2
  obtain ⟨g, hg, rfl⟩ := I_ex p3
  obtain ⟨β, -, hβ⟩ := J_ex (y.2 1)
  have h7 : x.1 7 = I (σ 2) := T.1.2.2.2.2.2.2.1
  have T2 : TR σ (tvMk (x.1 1) (x.1 2) (x.1 3) (x.1 4) (x.1 5) (x.1 6) (I (σ 2)) (x.1 8) (x.1 9) (x.2.1 0) (x.2.1 1) (x.2.1 2) (x.2.1 3) (x.2.1 4) (x.2.1 5) (x.2.1 6) (x.2.1 7) (x.2.1 8) (x.2.1 9) (x.2.1 10) (x.2.1 11)) := by rw [← h7]; exact T
  unfold G_house H_house F_X11_house F_X12_house
  rw [hs, hβ, hm, hp, m_keep, bnd_some, h7, h28, h29]
  have hj := j_house (v := xT x) hw T ha hf hg hQ (y.1 5)
  rcases hj with ⟨c, t, rn, rd, mr, md, mi, hc, e1, e2, hq, -⟩ | ⟨e1, g1, g2, g3, g4, g5, g6⟩
  · have hcc : (c = 2 ∧ t = 1) ∨ (c = 3 ∧ t = 2) := by simpa using hc
    obtain ⟨d1, d2⟩ := x_dFi (c := c) (by omega)
    rw [show F_X9_judgeHouse (I a) (I f) (I g) (I (σ 2)) (x.2.1 0) (x.2.1 10) (x.1 30) (x.1 31) = _ from e1, e2]
    simp only [bnd_some]
    rw [d1, bnd_some, brn_neg _ _ d2, m_endsF (t := t) (by omega) (by omega), bnd_some, CP_self]
    refine ⟨c.toNat, _, _, _, _, t, ?_, rfl, rfl, rfl, fun q => absurd q d2, ?_⟩
    · rcases hcc with ⟨rfl, rfl⟩ | ⟨rfl, rfl⟩ <;> decide
    · exact ⟨σ, π, n, e, ⟨hw.mono (by omega), rfl, T2⟩, hK.mono (by omega), ⟨rfl, rfl, rfl, rfl, hP.mono (by omega)⟩, hq, hO, hS⟩
  · obtain ⟨w1, w2⟩ := d_house_w hw hb T g1 g2 g3 g5 g6
    rw [show F_X9_judgeHouse (I a) (I f) (I g) (I (σ 2)) (x.2.1 0) (x.2.1 10) (x.1 30) (x.1 31) = _ from e1, d_house_m hw g1 g2 g3 g4 g5 g6]
    simp only [bnd_some]
    rw [x_dFi0, bnd_some, brn_pos _ _ rfl]
    obtain ⟨pool', q1, q2⟩ := x_push T2 hw hP
    rw [q1, bnd_some, d_house_x hw _ _ _ _ _ g6, bnd_some, show I 0 = (0 : Int32) from rfl, m_ends hP.1, bnd_some]
    exact ⟨0, _, _, _, _, 0, by decide, rfl, rfl, rfl, fun _ => rfl, ⟨_, _, _, _, ⟨w1.mono (by omega), rfl, w2⟩, hK.mono (by omega), ⟨rfl, rfl, rfl, rfl, q2.mono (by omega)⟩, hQ, hO, hS⟩⟩
end OP2
