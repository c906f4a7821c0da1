/-! ===== the reference's other telling methods ===== -/
theorem bnd_eq {α β : Type} {x : Option α} {a : α} {f : α → Option β} (h : x = some a) : bnd x f = f a := by rw [h]; rfl
theorem okB (b : Bool) : bI b = 0 ∨ bI b = 1 := by rw [bI_z]; trivial
section ML2
variable {b : Int} {σ : Nat → Int}
theorem m_hallOn (h : WF b σ) {c : Int} (h1 : 0 ≤ c) (h2 : c ≤ 63) : F_X12_hallOn (I c) (J σ) = some (I (lOn σ c)) := by
  have hn := h.m
  have hd : I c / 8 = I (c / 8) := by rw [lit_8, I_div h1 (by omega) (by omega) (by omega)]
  have hm := md_in (z := c) (d := 8) (by omega)
  have go : ∀ (r k f : Nat) (a : Int), (k : Int) + r = σ 3 → r < f → L_X12_hallOn_4 (I c) (J σ) f (I a) (I k) = some (I (lIx (inL σ c) r k a)) := by
    intro r
    induction r with
    | zero =>
      intro k f a hk hf
      obtain ⟨f, rfl⟩ : ∃ g, f = g + 1 := ⟨f - 1, by omega⟩
      rw [L_X12_hallOn_4]
      simp (disch := omega) only [brn_if, grd_if, ↓bnd_some, bnd_some, bnd_if, bnd_none, J_at, I_add, I_sub, I_mul, I_neg, lit_0, lit_1, lit_2, lit_3, lit_4, lit_5, lit_6, lit_7, lit_8, lit_9, lit_10, lit_11, lit_12, lit_13, lit_14, lit_20, lit_23, lit_24, lit_32, lit_33, lit_35, lit_40, lit_43, lit_45, lit_46, lit_47, lit_48, lit_49, lit_50, lit_57, lit_58, lit_59, lit_60, lit_61, lit_63, lit_64, lit_77, lit_95, lit_98, lit_99, lit_101, lit_104, lit_111, lit_112, lit_114, lit_116, lit_122, lit_127, lit_139, lit_147, lit_180, lit_255, lit_1000, lit_1029, I_lt, I_le, I_eq, I_cl, I_inb, if_pos, if_neg, eq_self, ite_true, ite_false, Int.zero_add, Int.add_zero, tn_0]
      rfl
    | succ r ih =>
      intro k f a hk hf
      obtain ⟨f, rfl⟩ : ∃ g, f = g + 1 := ⟨f - 1, by omega⟩
      have hh := h.hall (j := k) (by omega)
      have r1 := h.r (127 + 3 * k)
      have r2 := h.r (128 + 3 * k)
      have r3 := h.r (129 + 3 * k)
      have hc : I c - I c / 8 * 8 = I (md c 8) := by rw [hd, lit_8, I_mul, I_sub]; rfl
      rw [L_X12_hallOn_4, lIx, hc, hd]
      unfold J_X12_hallOn_68 J_X12_hallOn_69 inL
      by_cases e1 : c / 8 = σ (127 + 3 * k)
      · simp (disch := omega) only [brn_if, grd_if, ↓bnd_some, bnd_some, bnd_if, bnd_none, J_at, I_add, I_sub, I_mul, I_neg, lit_0, lit_1, lit_2, lit_3, lit_4, lit_5, lit_6, lit_7, lit_8, lit_9, lit_10, lit_11, lit_12, lit_13, lit_14, lit_20, lit_23, lit_24, lit_32, lit_33, lit_35, lit_40, lit_43, lit_45, lit_46, lit_47, lit_48, lit_49, lit_50, lit_57, lit_58, lit_59, lit_60, lit_61, lit_63, lit_64, lit_77, lit_95, lit_98, lit_99, lit_101, lit_104, lit_111, lit_112, lit_114, lit_116, lit_122, lit_127, lit_139, lit_147, lit_180, lit_255, lit_1000, lit_1029, I_lt, I_le, I_eq, I_cl, I_inb, if_pos, if_neg, eq_self, ite_true, ite_false, Int.zero_add, Int.add_zero, tn_0, tn_l k]
        rw [m_in (by omega) (by omega) (by omega), bnd_some, ← lit_0]
        simp only [bI_0]
        by_cases e2 : σ (128 + 3 * k) ≤ md c 8 ∧ md c 8 ≤ σ (129 + 3 * k)
        · rw [if_neg (by rw [decide_eq_true e2]; simp), decide_eq_true e1, decide_eq_true e2.1, decide_eq_true e2.2]
          exact ih (k + 1) f k (by omega) (by omega)
        · rw [if_pos (decide_eq_false e2), if_neg (by simp only [Bool.and_eq_true, decide_eq_true_eq]; exact fun q => e2 q.2)]
          exact ih (k + 1) f a (by omega) (by omega)
      · simp (disch := omega) only [brn_if, grd_if, ↓bnd_some, bnd_some, bnd_if, bnd_none, J_at, I_add, I_sub, I_mul, I_neg, lit_0, lit_1, lit_2, lit_3, lit_4, lit_5, lit_6, lit_7, lit_8, lit_9, lit_10, lit_11, lit_12, lit_13, lit_14, lit_20, lit_23, lit_24, lit_32, lit_33, lit_35, lit_40, lit_43, lit_45, lit_46, lit_47, lit_48, lit_49, lit_50, lit_57, lit_58, lit_59, lit_60, lit_61, lit_63, lit_64, lit_77, lit_95, lit_98, lit_99, lit_101, lit_104, lit_111, lit_112, lit_114, lit_116, lit_122, lit_127, lit_139, lit_147, lit_180, lit_255, lit_1000, lit_1029, I_lt, I_le, I_eq, I_cl, I_inb, if_pos, if_neg, eq_self, ite_true, ite_false, Int.zero_add, Int.add_zero, tn_0, tn_l k]
        rw [if_neg (by rw [decide_eq_false e1]; simp)]
        exact ih (k + 1) f a (by omega) (by omega)
  have := go (σ 3).toNat 0 100 (-1) (by omega) (by omega)
  unfold F_X12_hallOn
  rw [lit_1, lit_0, I_neg]
  exact this
theorem m_sleep (h : WF b σ) {i : Nat} (hi : (i : Int) < σ 2) : F_X12_sleep (I i) (J σ) = some (I (slN σ i)) := by
  have hn := h.n
  have hh := h.house hi
  unfold F_X12_sleep F_X12_at
  simp (disch := omega) only [brn_if, grd_if, ↓bnd_some, bnd_some, bnd_if, bnd_none, J_at, I_add, I_sub, I_mul, I_neg, lit_0, lit_1, lit_2, lit_3, lit_4, lit_5, lit_6, lit_7, lit_8, lit_9, lit_10, lit_11, lit_12, lit_13, lit_14, lit_20, lit_23, lit_24, lit_32, lit_33, lit_35, lit_40, lit_43, lit_45, lit_46, lit_47, lit_48, lit_49, lit_50, lit_57, lit_58, lit_59, lit_60, lit_61, lit_63, lit_64, lit_77, lit_95, lit_98, lit_99, lit_101, lit_104, lit_111, lit_112, lit_114, lit_116, lit_122, lit_127, lit_139, lit_147, lit_180, lit_255, lit_1000, lit_1029, I_lt, I_le, I_eq, I_cl, I_inb, if_pos, if_neg, eq_self, ite_true, ite_false, Int.zero_add, Int.add_zero, tn_h i]
  rw [I_div (by omega) (by omega) (by omega) (by omega), I_mul, I_sub]
  rfl
theorem m_sleeps (h : WF b σ) {i : Nat} (hi : (i : Int) < σ 2) {t : Int} (h1 : 0 ≤ t) (h2 : t ≤ 23) : F_X12_sleeps (I i) (I t) (J σ) = some (bI (slB σ i t)) := by
  have hn := h.n
  have hh := h.house hi
  have hs := slN_in σ i
  have hm := md_in (z := t - σ (78 + 5 * i) + 24) (d := 24) (by omega)
  unfold F_X12_sleeps F_X12_at
  simp (disch := omega) only [brn_if, grd_if, ↓bnd_some, bnd_some, bnd_if, bnd_none, J_at, I_add, I_sub, I_mul, I_neg, lit_0, lit_1, lit_2, lit_3, lit_4, lit_5, lit_6, lit_7, lit_8, lit_9, lit_10, lit_11, lit_12, lit_13, lit_14, lit_20, lit_23, lit_24, lit_32, lit_33, lit_35, lit_40, lit_43, lit_45, lit_46, lit_47, lit_48, lit_49, lit_50, lit_57, lit_58, lit_59, lit_60, lit_61, lit_63, lit_64, lit_77, lit_95, lit_98, lit_99, lit_101, lit_104, lit_111, lit_112, lit_114, lit_116, lit_122, lit_127, lit_139, lit_147, lit_180, lit_255, lit_1000, lit_1029, I_lt, I_le, I_eq, I_cl, I_inb, if_pos, if_neg, eq_self, ite_true, ite_false, Int.zero_add, Int.add_zero, tn_h i]
  rw [m_sleep h hi, bnd_some, I_div (by omega) (by omega) (by omega) (by omega), I_mul, I_sub]
  rw [show t - σ (78 + 5 * i) + 24 - (t - σ (78 + 5 * i) + 24) / 24 * 24 = md (t - σ (78 + 5 * i) + 24) 24 from rfl]
  simp (disch := omega) only [I_le]
  unfold slB
  rw [← lit_0, ← lit_1, bI_iteN]
  congr 2
  rw [← decide_not]
  exact decide_eq_decide.mpr (by omega)
theorem m_sleepers (h : WF b σ) {t : Int} (h1 : 0 ≤ t) (h2 : t ≤ 23) : F_X12_sleepers (I t) (J σ) = some (I (slC σ t)) := by
  have hn := h.n
  have go : ∀ (r k f : Nat) (a : Int), (k : Int) + r = σ 2 → r < f → L_X12_sleepers_4 (I t) (J σ) f (I a) (I k) = some (I (a + cnt (fun i => slB σ i t) r k)) := by
    intro r
    induction r with
    | zero =>
      intro k f a hk hf
      obtain ⟨f, rfl⟩ : ∃ g, f = g + 1 := ⟨f - 1, by omega⟩
      rw [L_X12_sleepers_4, cnt, Int.add_zero]
      simp (disch := omega) only [brn_if, grd_if, ↓bnd_some, bnd_some, bnd_if, bnd_none, J_at, I_add, I_sub, I_mul, I_neg, lit_0, lit_1, lit_2, lit_3, lit_4, lit_5, lit_6, lit_7, lit_8, lit_9, lit_10, lit_11, lit_12, lit_13, lit_14, lit_20, lit_23, lit_24, lit_32, lit_33, lit_35, lit_40, lit_43, lit_45, lit_46, lit_47, lit_48, lit_49, lit_50, lit_57, lit_58, lit_59, lit_60, lit_61, lit_63, lit_64, lit_77, lit_95, lit_98, lit_99, lit_101, lit_104, lit_111, lit_112, lit_114, lit_116, lit_122, lit_127, lit_139, lit_147, lit_180, lit_255, lit_1000, lit_1029, I_lt, I_le, I_eq, I_cl, I_inb, if_pos, if_neg, eq_self, ite_true, ite_false, Int.zero_add, Int.add_zero, tn_0]
    | succ r ih =>
      intro k f a hk hf
      obtain ⟨f, rfl⟩ : ∃ g, f = g + 1 := ⟨f - 1, by omega⟩
      have hs := m_sleeps h (i := k) (t := t) (by omega) h1 h2
      rw [L_X12_sleepers_4, cnt, hs]
      unfold J_X12_sleepers_29
      cases hb : slB σ k t
      · simp (disch := omega) only [brn_if, grd_if, ↓bnd_some, bnd_some, bnd_if, bnd_none, J_at, I_add, I_sub, I_mul, I_neg, lit_0, lit_1, lit_2, lit_3, lit_4, lit_5, lit_6, lit_7, lit_8, lit_9, lit_10, lit_11, lit_12, lit_13, lit_14, lit_20, lit_23, lit_24, lit_32, lit_33, lit_35, lit_40, lit_43, lit_45, lit_46, lit_47, lit_48, lit_49, lit_50, lit_57, lit_58, lit_59, lit_60, lit_61, lit_63, lit_64, lit_77, lit_95, lit_98, lit_99, lit_101, lit_104, lit_111, lit_112, lit_114, lit_116, lit_122, lit_127, lit_139, lit_147, lit_180, lit_255, lit_1000, lit_1029, I_lt, I_le, I_eq, I_cl, I_inb, if_pos, if_neg, eq_self, ite_true, ite_false, Int.zero_add, Int.add_zero, tn_0, bI, Bool.false_eq_true]
        exact ih (k + 1) f a (by omega) (by omega)
      · simp (disch := omega) only [brn_if, grd_if, ↓bnd_some, bnd_some, bnd_if, bnd_none, J_at, I_add, I_sub, I_mul, I_neg, lit_0, lit_1, lit_2, lit_3, lit_4, lit_5, lit_6, lit_7, lit_8, lit_9, lit_10, lit_11, lit_12, lit_13, lit_14, lit_20, lit_23, lit_24, lit_32, lit_33, lit_35, lit_40, lit_43, lit_45, lit_46, lit_47, lit_48, lit_49, lit_50, lit_57, lit_58, lit_59, lit_60, lit_61, lit_63, lit_64, lit_77, lit_95, lit_98, lit_99, lit_101, lit_104, lit_111, lit_112, lit_114, lit_116, lit_122, lit_127, lit_139, lit_147, lit_180, lit_255, lit_1000, lit_1029, I_lt, I_le, I_eq, I_cl, I_inb, if_pos, if_neg, eq_self, ite_true, ite_false, Int.zero_add, Int.add_zero, tn_0, bI]
        rw [← Int.add_assoc]
        exact ih (k + 1) f (a + 1) (by omega) (by omega)
  have := go (σ 2).toNat 0 100 0 (by omega) (by omega)
  unfold F_X12_sleepers slC
  rw [lit_0]
  refine Eq.trans this ?_
  rw [Int.zero_add]
theorem m_areTones {x y : Int} (hx : InR x) (hy : InR y) : F_X12_areTones (I x) (I y) = some (bI (decide ((0 ≤ x ∧ x ≤ 9) ∧ (0 ≤ y ∧ y ≤ 9) ∧ 0 < x + y))) := by
  unfold F_X12_areTones
  rw [lit_0, lit_9, m_in hx (by omega) (by omega), m_in hy (by omega) (by omega), bnd_some, bnd_some, ← lit_0]
  simp only [bI_0]
  by_cases e1 : 0 ≤ x ∧ x ≤ 9
  · by_cases e2 : 0 ≤ y ∧ y ≤ 9
    · by_cases e3 : 0 < x + y
      · rw [brn_neg _ _ (by rw [decide_eq_true e1]; simp), brn_neg _ _ (by rw [decide_eq_true e2]; simp), decide_eq_true ⟨e1, e2, e3⟩]
        simp (disch := omega) only [brn_if, grd_if, ↓bnd_some, bnd_some, bnd_if, bnd_none, J_at, I_add, I_sub, I_mul, I_neg, lit_0, lit_1, lit_2, lit_3, lit_4, lit_5, lit_6, lit_7, lit_8, lit_9, lit_10, lit_11, lit_12, lit_13, lit_14, lit_20, lit_23, lit_24, lit_32, lit_33, lit_35, lit_40, lit_43, lit_45, lit_46, lit_47, lit_48, lit_49, lit_50, lit_57, lit_58, lit_59, lit_60, lit_61, lit_63, lit_64, lit_77, lit_95, lit_98, lit_99, lit_101, lit_104, lit_111, lit_112, lit_114, lit_116, lit_122, lit_127, lit_139, lit_147, lit_180, lit_255, lit_1000, lit_1029, I_lt, I_le, I_eq, I_cl, I_inb, if_pos, if_neg, eq_self, ite_true, ite_false, Int.zero_add, Int.add_zero, bI]
        try rfl
      · rw [brn_neg _ _ (by rw [decide_eq_true e1]; simp), brn_neg _ _ (by rw [decide_eq_true e2]; simp), decide_eq_false (fun q => e3 q.2.2)]
        simp (disch := omega) only [brn_if, grd_if, ↓bnd_some, bnd_some, bnd_if, bnd_none, J_at, I_add, I_sub, I_mul, I_neg, lit_0, lit_1, lit_2, lit_3, lit_4, lit_5, lit_6, lit_7, lit_8, lit_9, lit_10, lit_11, lit_12, lit_13, lit_14, lit_20, lit_23, lit_24, lit_32, lit_33, lit_35, lit_40, lit_43, lit_45, lit_46, lit_47, lit_48, lit_49, lit_50, lit_57, lit_58, lit_59, lit_60, lit_61, lit_63, lit_64, lit_77, lit_95, lit_98, lit_99, lit_101, lit_104, lit_111, lit_112, lit_114, lit_116, lit_122, lit_127, lit_139, lit_147, lit_180, lit_255, lit_1000, lit_1029, I_lt, I_le, I_eq, I_cl, I_inb, if_pos, if_neg, eq_self, ite_true, ite_false, Int.zero_add, Int.add_zero, bI]
        try rfl
    · rw [brn_neg _ _ (by rw [decide_eq_true e1]; simp), brn_pos _ _ (decide_eq_false e2), decide_eq_false (fun q => e2 q.2.1)]
      rfl
  · rw [brn_pos _ _ (decide_eq_false e1), decide_eq_false (fun q => e1 q.1)]
    rfl
theorem m_kind (h : WF b σ) {i : Nat} (hi : (i : Int) < σ 2) {t x y : Int} (h1 : 0 ≤ t) (h2 : t ≤ 23) (h3 : 0 ≤ x) (h4 : x ≤ 9) (h5 : 0 ≤ y) (h6 : y ≤ 9) : F_X12_kind (I i) (I t) (I x) (I y) (J σ) = some (I (kd σ i t x y)) := by
  have hs := m_sleeps h hi h1 h2
  unfold F_X12_kind J_X12_kind_27 kd
  rw [hs, bnd_some]
  simp only [bI_0]
  by_cases e1 : y = 0
  · by_cases e2 : 3 ≤ x
    · rw [if_neg (by omega)]
      simp (disch := omega) only [brn_if, grd_if, ↓bnd_some, bnd_some, bnd_if, bnd_none, J_at, I_add, I_sub, I_mul, I_neg, lit_0, lit_1, lit_2, lit_3, lit_4, lit_5, lit_6, lit_7, lit_8, lit_9, lit_10, lit_11, lit_12, lit_13, lit_14, lit_20, lit_23, lit_24, lit_32, lit_33, lit_35, lit_40, lit_43, lit_45, lit_46, lit_47, lit_48, lit_49, lit_50, lit_57, lit_58, lit_59, lit_60, lit_61, lit_63, lit_64, lit_77, lit_95, lit_98, lit_99, lit_101, lit_104, lit_111, lit_112, lit_114, lit_116, lit_122, lit_127, lit_139, lit_147, lit_180, lit_255, lit_1000, lit_1029, I_lt, I_le, I_eq, I_cl, I_inb, if_pos, if_neg, eq_self, ite_true, ite_false, Int.zero_add, Int.add_zero]
      try rw [if_neg (by omega), if_neg (by omega)]
    · rw [if_pos (by omega)]
      simp (disch := omega) only [brn_if, grd_if, ↓bnd_some, bnd_some, bnd_if, bnd_none, J_at, I_add, I_sub, I_mul, I_neg, lit_0, lit_1, lit_2, lit_3, lit_4, lit_5, lit_6, lit_7, lit_8, lit_9, lit_10, lit_11, lit_12, lit_13, lit_14, lit_20, lit_23, lit_24, lit_32, lit_33, lit_35, lit_40, lit_43, lit_45, lit_46, lit_47, lit_48, lit_49, lit_50, lit_57, lit_58, lit_59, lit_60, lit_61, lit_63, lit_64, lit_77, lit_95, lit_98, lit_99, lit_101, lit_104, lit_111, lit_112, lit_114, lit_116, lit_122, lit_127, lit_139, lit_147, lit_180, lit_255, lit_1000, lit_1029, I_lt, I_le, I_eq, I_cl, I_inb, if_pos, if_neg, eq_self, ite_true, ite_false, Int.zero_add, Int.add_zero]
      cases hb : slB σ i t <;> simp
  · rw [if_neg (by omega)]
    by_cases e3 : x = 0
    · by_cases e4 : y ≤ 2
      · rw [if_neg (by omega)]
        simp (disch := omega) only [brn_if, grd_if, ↓bnd_some, bnd_some, bnd_if, bnd_none, J_at, I_add, I_sub, I_mul, I_neg, lit_0, lit_1, lit_2, lit_3, lit_4, lit_5, lit_6, lit_7, lit_8, lit_9, lit_10, lit_11, lit_12, lit_13, lit_14, lit_20, lit_23, lit_24, lit_32, lit_33, lit_35, lit_40, lit_43, lit_45, lit_46, lit_47, lit_48, lit_49, lit_50, lit_57, lit_58, lit_59, lit_60, lit_61, lit_63, lit_64, lit_77, lit_95, lit_98, lit_99, lit_101, lit_104, lit_111, lit_112, lit_114, lit_116, lit_122, lit_127, lit_139, lit_147, lit_180, lit_255, lit_1000, lit_1029, I_lt, I_le, I_eq, I_cl, I_inb, if_pos, if_neg, eq_self, ite_true, ite_false, Int.zero_add, Int.add_zero]
      · rw [if_pos (by omega)]
        simp (disch := omega) only [brn_if, grd_if, ↓bnd_some, bnd_some, bnd_if, bnd_none, J_at, I_add, I_sub, I_mul, I_neg, lit_0, lit_1, lit_2, lit_3, lit_4, lit_5, lit_6, lit_7, lit_8, lit_9, lit_10, lit_11, lit_12, lit_13, lit_14, lit_20, lit_23, lit_24, lit_32, lit_33, lit_35, lit_40, lit_43, lit_45, lit_46, lit_47, lit_48, lit_49, lit_50, lit_57, lit_58, lit_59, lit_60, lit_61, lit_63, lit_64, lit_77, lit_95, lit_98, lit_99, lit_101, lit_104, lit_111, lit_112, lit_114, lit_116, lit_122, lit_127, lit_139, lit_147, lit_180, lit_255, lit_1000, lit_1029, I_lt, I_le, I_eq, I_cl, I_inb, if_pos, if_neg, eq_self, ite_true, ite_false, Int.zero_add, Int.add_zero]
    · rw [if_neg (by omega)]
      simp (disch := omega) only [brn_if, grd_if, ↓bnd_some, bnd_some, bnd_if, bnd_none, J_at, I_add, I_sub, I_mul, I_neg, lit_0, lit_1, lit_2, lit_3, lit_4, lit_5, lit_6, lit_7, lit_8, lit_9, lit_10, lit_11, lit_12, lit_13, lit_14, lit_20, lit_23, lit_24, lit_32, lit_33, lit_35, lit_40, lit_43, lit_45, lit_46, lit_47, lit_48, lit_49, lit_50, lit_57, lit_58, lit_59, lit_60, lit_61, lit_63, lit_64, lit_77, lit_95, lit_98, lit_99, lit_101, lit_104, lit_111, lit_112, lit_114, lit_116, lit_122, lit_127, lit_139, lit_147, lit_180, lit_255, lit_1000, lit_1029, I_lt, I_le, I_eq, I_cl, I_inb, if_pos, if_neg, eq_self, ite_true, ite_false, Int.zero_add, Int.add_zero]
theorem m_areInHall (h : WF b σ) {i j : Nat} (hi : (i : Int) < σ 2) (hj : (j : Int) < σ 2) : F_X12_areInHall (I i) (I j) (J σ) = some (bI (inH σ i j)) := by
  have hn := h.n
  have a1 := h.house hi
  have a2 := h.house hj
  have b1 := lOn_in h (σ (77 + 5 * i))
  have b2 := lOn_in h (σ (77 + 5 * j))
  have b3 := h.m
  unfold F_X12_areInHall inH
  rw [m_cellOf h hi, bnd_some, m_hallOn h a1.1.1 a1.1.2, bnd_some, m_cellOf h hj, bnd_some, m_hallOn h a2.1.1 a2.1.2, bnd_some, lit_0, lit_1]
  simp (disch := omega) only [I_eq, I_lt]
  by_cases e1 : i = j
  · rw [brn_pos _ _ (by omega), decide_eq_false (by omega)]
    rfl
  · rw [brn_neg _ _ (by omega), decide_eq_true (by omega)]
    by_cases e2 : lOn σ (σ (77 + 5 * i)) < 0
    · rw [brn_pos _ _ e2, decide_eq_false (by omega)]
      rfl
    · rw [brn_neg _ _ e2, decide_eq_true (by omega), brn_if, ← lit_0, ← lit_1, bI_ite]
      rfl
theorem m_shortsAt (h : WF b σ) {i j : Nat} (hi : (i : Int) < σ 2) (hj : (j : Int) < σ 2) {x : Int} (h3 : 0 ≤ x) (h4 : x ≤ 9) : F_X12_shortsAt (I i) (I j) (I x) (J σ) = some (I (shA σ i j x)) := by
  have a1 := h.house hi
  have a2 := h.house hj
  have a3 := far_in a1.1.1 a1.1.2 a2.1.1 a2.1.2
  unfold F_X12_shortsAt shA
  rw [m_cellOf h hi, bnd_some, m_cellOf h hj, bnd_some, m_far a1.1.1 a1.1.2 a2.1.1 a2.1.2, bnd_some, lit_0]
  simp (disch := omega) only [I_sub, I_lt, I_ite]
theorem m_echoes (h : WF b σ) {i j : Nat} (hi : (i : Int) < σ 2) (hj : (j : Int) < σ 2) {x y : Int} (h3 : 0 ≤ x) (h4 : x ≤ 9) (h5 : 0 ≤ y) (h6 : y ≤ 9) : F_X12_echoes (I i) (I j) (I x) (I y) (J σ) = some (bI (ecB σ i j x y)) := by
  have a3 := shA_in h hi hj h3
  unfold F_X12_echoes ecB
  rw [m_areInHall h hi hj, bnd_some]
  simp only [bI_0]
  rw [m_shortsAt h hi hj h3 h4, bnd_some]
  cases hb : inH σ i j
  · rfl
  · rw [brn_neg _ _ (by simp), lit_0, I_add, brn_if]
    simp (disch := omega) only [I_le]
    rw [← lit_0, bI_iteN, ← decide_not]
    congr 2
    exact decide_eq_decide.mpr (by omega)
theorem m_canBe (h : WF b σ) {c : Int} (h1 : 0 ≤ c) (h2 : c ≤ 63) : F_X12_canBe (I c) (J σ) = some (bI (canB σ c)) := by
  have hn := h.q
  have go : ∀ (r k f : Nat) (a : Bool), (k : Int) + r = σ 4 → r < f → L_X12_canBe_16 (I c) (J σ) f (bI a) (I k) = some (bI (a && allB (agB σ c) r k)) := by
    intro r
    induction r with
    | zero =>
      intro k f a hk hf
      obtain ⟨f, rfl⟩ : ∃ g, f = g + 1 := ⟨f - 1, by omega⟩
      rw [L_X12_canBe_16, allB, Bool.and_true]
      have := okB a
      rw [lit_0, lit_1] at this
      simp (disch := omega) only [brn_if, grd_if, ↓bnd_some, bnd_some, bnd_if, bnd_none, J_at, I_add, I_sub, I_mul, I_neg, lit_0, lit_1, lit_2, lit_3, lit_4, lit_5, lit_6, lit_7, lit_8, lit_9, lit_10, lit_11, lit_12, lit_13, lit_14, lit_20, lit_23, lit_24, lit_32, lit_33, lit_35, lit_40, lit_43, lit_45, lit_46, lit_47, lit_48, lit_49, lit_50, lit_57, lit_58, lit_59, lit_60, lit_61, lit_63, lit_64, lit_77, lit_95, lit_98, lit_99, lit_101, lit_104, lit_111, lit_112, lit_114, lit_116, lit_122, lit_127, lit_139, lit_147, lit_180, lit_255, lit_1000, lit_1029, I_lt, I_le, I_eq, I_cl, I_inb, if_pos, if_neg, eq_self, ite_true, ite_false, Int.zero_add, Int.add_zero, tn_0]
      try rw [if_pos this]
    | succ r ih =>
      intro k f a hk hf
      obtain ⟨f, rfl⟩ : ∃ g, f = g + 1 := ⟨f - 1, by omega⟩
      have hh := h.post (j := k) (by omega)
      have hf2 := m_far h1 h2 hh.1.1 hh.1.2
      have hf3 := far_in h1 h2 hh.1.1 hh.1.2
      rw [L_X12_canBe_16, allB]
      unfold J_X12_canBe_76 J_X12_canBe_72 J_X12_canBe_77
      simp only [bI_0]
      have e0 := ih (k + 1) f false (by omega) (by omega)
      have e1 := ih (k + 1) f true (by omega) (by omega)
      have t0 : bI false = I 0 := by decide
      have t1 : bI true = I 1 := by decide
      rw [t0] at e0
      rw [t1] at e1
      have ek : ((k + 1 : Nat) : Int) = (k : Int) + 1 := by omega
      rw [ek] at e0 e1
      cases a
      · simp (disch := omega) only [brn_if, grd_if, ↓bnd_some, bnd_some, bnd_if, bnd_none, J_at, I_add, I_sub, I_mul, I_neg, lit_0, lit_1, lit_2, lit_3, lit_4, lit_5, lit_6, lit_7, lit_8, lit_9, lit_10, lit_11, lit_12, lit_13, lit_14, lit_20, lit_23, lit_24, lit_32, lit_33, lit_35, lit_40, lit_43, lit_45, lit_46, lit_47, lit_48, lit_49, lit_50, lit_57, lit_58, lit_59, lit_60, lit_61, lit_63, lit_64, lit_77, lit_95, lit_98, lit_99, lit_101, lit_104, lit_111, lit_112, lit_114, lit_116, lit_122, lit_127, lit_139, lit_147, lit_180, lit_255, lit_1000, lit_1029, I_lt, I_le, I_eq, I_cl, I_inb, if_pos, if_neg, eq_self, ite_true, ite_false, Int.zero_add, Int.add_zero, tn_0, tn_p k, hf2]
        rw [e0]; simp
      · unfold agB
        by_cases e2 : σ (140 + 2 * k) < 0
        · simp (disch := omega) only [brn_if, grd_if, ↓bnd_some, bnd_some, bnd_if, bnd_none, J_at, I_add, I_sub, I_mul, I_neg, lit_0, lit_1, lit_2, lit_3, lit_4, lit_5, lit_6, lit_7, lit_8, lit_9, lit_10, lit_11, lit_12, lit_13, lit_14, lit_20, lit_23, lit_24, lit_32, lit_33, lit_35, lit_40, lit_43, lit_45, lit_46, lit_47, lit_48, lit_49, lit_50, lit_57, lit_58, lit_59, lit_60, lit_61, lit_63, lit_64, lit_77, lit_95, lit_98, lit_99, lit_101, lit_104, lit_111, lit_112, lit_114, lit_116, lit_122, lit_127, lit_139, lit_147, lit_180, lit_255, lit_1000, lit_1029, I_lt, I_le, I_eq, I_cl, I_inb, if_pos, if_neg, eq_self, ite_true, ite_false, Int.zero_add, Int.add_zero, tn_0, tn_p k, hf2]
          rw [if_neg (by simp), e1, decide_eq_true e2]; simp; try rfl
        · by_cases e3 : far c (σ (139 + 2 * k)) = σ (140 + 2 * k)
          · simp (disch := omega) only [brn_if, grd_if, ↓bnd_some, bnd_some, bnd_if, bnd_none, J_at, I_add, I_sub, I_mul, I_neg, lit_0, lit_1, lit_2, lit_3, lit_4, lit_5, lit_6, lit_7, lit_8, lit_9, lit_10, lit_11, lit_12, lit_13, lit_14, lit_20, lit_23, lit_24, lit_32, lit_33, lit_35, lit_40, lit_43, lit_45, lit_46, lit_47, lit_48, lit_49, lit_50, lit_57, lit_58, lit_59, lit_60, lit_61, lit_63, lit_64, lit_77, lit_95, lit_98, lit_99, lit_101, lit_104, lit_111, lit_112, lit_114, lit_116, lit_122, lit_127, lit_139, lit_147, lit_180, lit_255, lit_1000, lit_1029, I_lt, I_le, I_eq, I_cl, I_inb, if_pos, if_neg, eq_self, ite_true, ite_false, Int.zero_add, Int.add_zero, tn_0, tn_p k, hf2]
            rw [if_neg (by simp), e1, decide_eq_true e3]; simp; try rfl
          · simp (disch := omega) only [brn_if, grd_if, ↓bnd_some, bnd_some, bnd_if, bnd_none, J_at, I_add, I_sub, I_mul, I_neg, lit_0, lit_1, lit_2, lit_3, lit_4, lit_5, lit_6, lit_7, lit_8, lit_9, lit_10, lit_11, lit_12, lit_13, lit_14, lit_20, lit_23, lit_24, lit_32, lit_33, lit_35, lit_40, lit_43, lit_45, lit_46, lit_47, lit_48, lit_49, lit_50, lit_57, lit_58, lit_59, lit_60, lit_61, lit_63, lit_64, lit_77, lit_95, lit_98, lit_99, lit_101, lit_104, lit_111, lit_112, lit_114, lit_116, lit_122, lit_127, lit_139, lit_147, lit_180, lit_255, lit_1000, lit_1029, I_lt, I_le, I_eq, I_cl, I_inb, if_pos, if_neg, eq_self, ite_true, ite_false, Int.zero_add, Int.add_zero, tn_0, tn_p k, hf2]
            rw [if_neg (by simp), e0, decide_eq_false e2, decide_eq_false e3]; simp; try rfl
  have g1 := go (σ 4).toNat 0 100 true (by omega) (by omega)
  have g0 := go (σ 4).toNat 0 100 false (by omega) (by omega)
  unfold F_X12_canBe J_X12_canBe_13 canB
  rw [m_isBlocked h h1 h2, bnd_some]
  simp only [bI_0]
  cases hb : blkB σ c
  · rw [brn_pos _ _ rfl]
    exact g1
  · rw [brn_neg _ _ (by simp)]
    exact g0
theorem m_canBeMany (h : WF b σ) : F_X12_canBeMany (J σ) = some (I (canN σ)) := by
  have go : ∀ (r k f : Nat) (a : Int), k + r = 64 → r < f → L_X12_canBeMany_4 (J σ) f (I a) (I k) = some (I (a + cnt (fun c => canB σ c) r k)) := by
    intro r
    induction r with
    | zero =>
      intro k f a hk hf
      obtain ⟨f, rfl⟩ : ∃ g, f = g + 1 := ⟨f - 1, by omega⟩
      rw [L_X12_canBeMany_4, cnt, Int.add_zero]
      simp (disch := omega) only [brn_if, grd_if, ↓bnd_some, bnd_some, bnd_if, bnd_none, J_at, I_add, I_sub, I_mul, I_neg, lit_0, lit_1, lit_2, lit_3, lit_4, lit_5, lit_6, lit_7, lit_8, lit_9, lit_10, lit_11, lit_12, lit_13, lit_14, lit_20, lit_23, lit_24, lit_32, lit_33, lit_35, lit_40, lit_43, lit_45, lit_46, lit_47, lit_48, lit_49, lit_50, lit_57, lit_58, lit_59, lit_60, lit_61, lit_63, lit_64, lit_77, lit_95, lit_98, lit_99, lit_101, lit_104, lit_111, lit_112, lit_114, lit_116, lit_122, lit_127, lit_139, lit_147, lit_180, lit_255, lit_1000, lit_1029, I_lt, I_le, I_eq, I_cl, I_inb, if_pos, if_neg, eq_self, ite_true, ite_false, Int.zero_add, Int.add_zero]
    | succ r ih =>
      intro k f a hk hf
      obtain ⟨f, rfl⟩ : ∃ g, f = g + 1 := ⟨f - 1, by omega⟩
      have hs := m_canBe h (c := k) (by omega) (by omega)
      rw [L_X12_canBeMany_4, cnt, hs]
      unfold J_X12_canBeMany_24
      cases hb : canB σ k
      · simp (disch := omega) only [brn_if, grd_if, ↓bnd_some, bnd_some, bnd_if, bnd_none, J_at, I_add, I_sub, I_mul, I_neg, lit_0, lit_1, lit_2, lit_3, lit_4, lit_5, lit_6, lit_7, lit_8, lit_9, lit_10, lit_11, lit_12, lit_13, lit_14, lit_20, lit_23, lit_24, lit_32, lit_33, lit_35, lit_40, lit_43, lit_45, lit_46, lit_47, lit_48, lit_49, lit_50, lit_57, lit_58, lit_59, lit_60, lit_61, lit_63, lit_64, lit_77, lit_95, lit_98, lit_99, lit_101, lit_104, lit_111, lit_112, lit_114, lit_116, lit_122, lit_127, lit_139, lit_147, lit_180, lit_255, lit_1000, lit_1029, I_lt, I_le, I_eq, I_cl, I_inb, if_pos, if_neg, eq_self, ite_true, ite_false, Int.zero_add, Int.add_zero, bI, Bool.false_eq_true]
        exact ih (k + 1) f a (by omega) (by omega)
      · simp (disch := omega) only [brn_if, grd_if, ↓bnd_some, bnd_some, bnd_if, bnd_none, J_at, I_add, I_sub, I_mul, I_neg, lit_0, lit_1, lit_2, lit_3, lit_4, lit_5, lit_6, lit_7, lit_8, lit_9, lit_10, lit_11, lit_12, lit_13, lit_14, lit_20, lit_23, lit_24, lit_32, lit_33, lit_35, lit_40, lit_43, lit_45, lit_46, lit_47, lit_48, lit_49, lit_50, lit_57, lit_58, lit_59, lit_60, lit_61, lit_63, lit_64, lit_77, lit_95, lit_98, lit_99, lit_101, lit_104, lit_111, lit_112, lit_114, lit_116, lit_122, lit_127, lit_139, lit_147, lit_180, lit_255, lit_1000, lit_1029, I_lt, I_le, I_eq, I_cl, I_inb, if_pos, if_neg, eq_self, ite_true, ite_false, Int.zero_add, Int.add_zero, bI]
        rw [← Int.add_assoc]
        exact ih (k + 1) f (a + 1) (by omega) (by omega)
  have := go 64 0 100 0 (by omega) (by omega)
  unfold F_X12_canBeMany canN
  rw [lit_0]
  refine Eq.trans this ?_
  rw [Int.zero_add]
/-- the posts that tell -/
def telN (σ : Nat → Int) : Int := cnt (fun j => decide (0 ≤ σ (140 + 2 * j))) (σ 4).toNat 0
theorem m_telling (h : WF b σ) : F_X12_telling (J σ) = some (I (telN σ)) := by
  have hn := h.q
  have go : ∀ (r k f : Nat) (a : Int), (k : Int) + r = σ 4 → r < f → L_X12_telling_4 (J σ) f (I a) (I k) = some (I (a + cnt (fun j => decide (0 ≤ σ (140 + 2 * j))) r k)) := by
    intro r
    induction r with
    | zero =>
      intro k f a hk hf
      obtain ⟨f, rfl⟩ : ∃ g, f = g + 1 := ⟨f - 1, by omega⟩
      rw [L_X12_telling_4, cnt, Int.add_zero]
      simp (disch := omega) only [brn_if, grd_if, ↓bnd_some, bnd_some, bnd_if, bnd_none, J_at, I_add, I_sub, I_mul, I_neg, lit_0, lit_1, lit_2, lit_3, lit_4, lit_5, lit_6, lit_7, lit_8, lit_9, lit_10, lit_11, lit_12, lit_13, lit_14, lit_20, lit_23, lit_24, lit_32, lit_33, lit_35, lit_40, lit_43, lit_45, lit_46, lit_47, lit_48, lit_49, lit_50, lit_57, lit_58, lit_59, lit_60, lit_61, lit_63, lit_64, lit_77, lit_95, lit_98, lit_99, lit_101, lit_104, lit_111, lit_112, lit_114, lit_116, lit_122, lit_127, lit_139, lit_147, lit_180, lit_255, lit_1000, lit_1029, I_lt, I_le, I_eq, I_cl, I_inb, if_pos, if_neg, eq_self, ite_true, ite_false, Int.zero_add, Int.add_zero, tn_0]
    | succ r ih =>
      intro k f a hk hf
      obtain ⟨f, rfl⟩ : ∃ g, f = g + 1 := ⟨f - 1, by omega⟩
      have hh := h.post (j := k) (by omega)
      rw [L_X12_telling_4, cnt]
      unfold J_X12_telling_37
      by_cases e : 0 ≤ σ (140 + 2 * k)
      · simp (disch := omega) only [brn_if, grd_if, ↓bnd_some, bnd_some, bnd_if, bnd_none, J_at, I_add, I_sub, I_mul, I_neg, lit_0, lit_1, lit_2, lit_3, lit_4, lit_5, lit_6, lit_7, lit_8, lit_9, lit_10, lit_11, lit_12, lit_13, lit_14, lit_20, lit_23, lit_24, lit_32, lit_33, lit_35, lit_40, lit_43, lit_45, lit_46, lit_47, lit_48, lit_49, lit_50, lit_57, lit_58, lit_59, lit_60, lit_61, lit_63, lit_64, lit_77, lit_95, lit_98, lit_99, lit_101, lit_104, lit_111, lit_112, lit_114, lit_116, lit_122, lit_127, lit_139, lit_147, lit_180, lit_255, lit_1000, lit_1029, I_lt, I_le, I_eq, I_cl, I_inb, if_pos, if_neg, eq_self, ite_true, ite_false, Int.zero_add, Int.add_zero, tn_0, tn_p k, decide_eq_true_eq]
        rw [← Int.add_assoc]
        exact ih (k + 1) f (a + 1) (by omega) (by omega)
      · simp (disch := omega) only [brn_if, grd_if, ↓bnd_some, bnd_some, bnd_if, bnd_none, J_at, I_add, I_sub, I_mul, I_neg, lit_0, lit_1, lit_2, lit_3, lit_4, lit_5, lit_6, lit_7, lit_8, lit_9, lit_10, lit_11, lit_12, lit_13, lit_14, lit_20, lit_23, lit_24, lit_32, lit_33, lit_35, lit_40, lit_43, lit_45, lit_46, lit_47, lit_48, lit_49, lit_50, lit_57, lit_58, lit_59, lit_60, lit_61, lit_63, lit_64, lit_77, lit_95, lit_98, lit_99, lit_101, lit_104, lit_111, lit_112, lit_114, lit_116, lit_122, lit_127, lit_139, lit_147, lit_180, lit_255, lit_1000, lit_1029, I_lt, I_le, I_eq, I_cl, I_inb, if_pos, if_neg, eq_self, ite_true, ite_false, Int.zero_add, Int.add_zero, tn_0, tn_p k, decide_eq_true_eq]
        exact ih (k + 1) f a (by omega) (by omega)
  have := go (σ 4).toNat 0 100 0 (by omega) (by omega)
  unfold F_X12_telling telN
  rw [lit_0]
  refine Eq.trans this ?_
  rw [Int.zero_add]
/-- the cells that are blocked -/
def blkN (σ : Nat → Int) : Int := sumI (fun c => σ (13 + c)) 64 0
theorem m_blocks (h : WF b σ) : F_X12_blocks (J σ) = some (I (blkN σ)) := by
  have go : ∀ (r k f : Nat) (a : Int), k + r = 64 → r < f → L_X12_blocks_4 (J σ) f (I a) (I k) = some (I (a + sumI (fun c => σ (13 + c)) r k)) := by
    intro r
    induction r with
    | zero =>
      intro k f a hk hf
      obtain ⟨f, rfl⟩ : ∃ g, f = g + 1 := ⟨f - 1, by omega⟩
      rw [L_X12_blocks_4, sumI, Int.add_zero]
      simp (disch := omega) only [brn_if, grd_if, ↓bnd_some, bnd_some, bnd_if, bnd_none, J_at, I_add, I_sub, I_mul, I_neg, lit_0, lit_1, lit_2, lit_3, lit_4, lit_5, lit_6, lit_7, lit_8, lit_9, lit_10, lit_11, lit_12, lit_13, lit_14, lit_20, lit_23, lit_24, lit_32, lit_33, lit_35, lit_40, lit_43, lit_45, lit_46, lit_47, lit_48, lit_49, lit_50, lit_57, lit_58, lit_59, lit_60, lit_61, lit_63, lit_64, lit_77, lit_95, lit_98, lit_99, lit_101, lit_104, lit_111, lit_112, lit_114, lit_116, lit_122, lit_127, lit_139, lit_147, lit_180, lit_255, lit_1000, lit_1029, I_lt, I_le, I_eq, I_cl, I_inb, if_pos, if_neg, eq_self, ite_true, ite_false, Int.zero_add, Int.add_zero]
    | succ r ih =>
      intro k f a hk hf
      obtain ⟨f, rfl⟩ : ∃ g, f = g + 1 := ⟨f - 1, by omega⟩
      have ek : (13 + (k : Int)).toNat = 13 + k := by omega
      rw [L_X12_blocks_4, sumI]
      simp (disch := omega) only [brn_if, grd_if, ↓bnd_some, bnd_some, bnd_if, bnd_none, J_at, I_add, I_sub, I_mul, I_neg, lit_0, lit_1, lit_2, lit_3, lit_4, lit_5, lit_6, lit_7, lit_8, lit_9, lit_10, lit_11, lit_12, lit_13, lit_14, lit_20, lit_23, lit_24, lit_32, lit_33, lit_35, lit_40, lit_43, lit_45, lit_46, lit_47, lit_48, lit_49, lit_50, lit_57, lit_58, lit_59, lit_60, lit_61, lit_63, lit_64, lit_77, lit_95, lit_98, lit_99, lit_101, lit_104, lit_111, lit_112, lit_114, lit_116, lit_122, lit_127, lit_139, lit_147, lit_180, lit_255, lit_1000, lit_1029, I_lt, I_le, I_eq, I_cl, I_inb, if_pos, if_neg, eq_self, ite_true, ite_false, Int.zero_add, Int.add_zero, ek]
      rw [← Int.add_assoc]
      exact ih (k + 1) f (a + σ (13 + k)) (by omega) (by omega)
  have := go 64 0 100 0 (by omega) (by omega)
  unfold F_X12_blocks blkN
  rw [lit_0]
  refine Eq.trans this ?_
  rw [Int.zero_add]
end ML2
