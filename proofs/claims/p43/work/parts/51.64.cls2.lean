/-! ===== the class: halls, posts, town ===== -/
section CL2
variable {b : Int} {σ : Nat → Int}
theorem x_lOn (h : WF b σ) {a1 a2 a3 : Nat → Int32} (h1 : AR a1 (fun j => σ (127 + 3 * j)) (σ 3)) (h2 : AR a2 (fun j => σ (128 + 3 * j)) (σ 3)) (h3 : AR a3 (fun j => σ (129 + 3 * j)) (σ 3)) {c : Int} (hc1 : 0 ≤ c) (hc2 : c ≤ 63) : F_X1_around (I c) (I (σ 3)) a1 a2 a3 = some (I (lOn σ c)) := by
  have hn := h.m
  have hm := md_in (z := c) (d := 8) (by omega)
  have hd : I c / 8 = I (c / 8) := by rw [lit_8, I_div hc1 (by omega) (by omega) (by omega)]
  have hc : I c - I c / 8 * 8 = I (md c 8) := by rw [hd, lit_8, I_mul, I_sub]; rfl
  have go : ∀ (r k t : Nat), (k : Int) + r = σ 3 → r < t → L_X1_around_2 (I c) (I (σ 3)) a1 a2 a3 t (I k) = some (I (fIx (inL σ c) r k)) := by
    intro r
    induction r with
    | zero =>
      intro k t hk ht
      obtain ⟨t, rfl⟩ : ∃ g, t = g + 1 := ⟨t - 1, by omega⟩
      rw [L_X1_around_2, fIx]
      simp (disch := omega) only [brn_if, grd_if, ↓bnd_some, bnd_some, bnd_if, bnd_none, J_at, I_add, I_sub, I_mul, I_neg, lit_0, lit_1, lit_2, lit_3, lit_4, lit_5, lit_6, lit_7, lit_8, lit_9, lit_10, lit_11, lit_12, lit_13, lit_14, lit_20, lit_23, lit_24, lit_32, lit_33, lit_35, lit_40, lit_43, lit_45, lit_46, lit_47, lit_48, lit_49, lit_50, lit_57, lit_58, lit_59, lit_60, lit_61, lit_63, lit_64, lit_77, lit_95, lit_98, lit_99, lit_101, lit_104, lit_111, lit_112, lit_114, lit_116, lit_122, lit_127, lit_139, lit_147, lit_180, lit_255, lit_1000, lit_1029, I_lt, I_le, I_eq, I_cl, I_inb, if_pos, if_neg, eq_self, ite_true, ite_false, Int.zero_add, Int.add_zero]
    | succ r ih =>
      intro k t hk ht
      obtain ⟨t, rfl⟩ : ∃ g, t = g + 1 := ⟨t - 1, by omega⟩
      have hh := h.hall (j := k) (by omega)
      have e1 := ih (k + 1) t (by omega) (by omega)
      rw [show ((k + 1 : Nat) : Int) = (k : Int) + 1 by omega] at e1
      rw [L_X1_around_2, fIx]
      unfold J_X1_around_30 F_X0_columnOf F_X0_rowOf
      rw [x_at4 h1 (i := k) (by omega) hn.2, x_at4 h2 (i := k) (by omega) hn.2, x_at4 h3 (i := k) (by omega) hn.2, hc, hd]
      simp only [bnd_some]
      rw [x_in (by omega) (by omega) (by omega)]
      simp only [bnd_some, lit_1, I_add, e1]
      simp only [bI_0]
      unfold inL
      by_cases e2 : c / 8 = σ (127 + 3 * k)
      · by_cases e3 : σ (128 + 3 * k) ≤ md c 8 ∧ md c 8 ≤ σ (129 + 3 * k)
        · rw [if_pos (by rw [decide_eq_true e2, decide_eq_true e3.1, decide_eq_true e3.2]; rfl)]
          simp (disch := omega) only [brn_if, grd_if, ↓bnd_some, bnd_some, bnd_if, bnd_none, J_at, I_add, I_sub, I_mul, I_neg, lit_0, lit_1, lit_2, lit_3, lit_4, lit_5, lit_6, lit_7, lit_8, lit_9, lit_10, lit_11, lit_12, lit_13, lit_14, lit_20, lit_23, lit_24, lit_32, lit_33, lit_35, lit_40, lit_43, lit_45, lit_46, lit_47, lit_48, lit_49, lit_50, lit_57, lit_58, lit_59, lit_60, lit_61, lit_63, lit_64, lit_77, lit_95, lit_98, lit_99, lit_101, lit_104, lit_111, lit_112, lit_114, lit_116, lit_122, lit_127, lit_139, lit_147, lit_180, lit_255, lit_1000, lit_1029, I_lt, I_le, I_eq, I_cl, I_inb, if_pos, if_neg, eq_self, ite_true, ite_false, Int.zero_add, Int.add_zero]
          rw [if_neg (by rw [decide_eq_true e3]; simp)]
        · rw [if_neg (by simp only [Bool.and_eq_true, decide_eq_true_eq]; exact fun q => e3 q.2)]
          simp (disch := omega) only [brn_if, grd_if, ↓bnd_some, bnd_some, bnd_if, bnd_none, J_at, I_add, I_sub, I_mul, I_neg, lit_0, lit_1, lit_2, lit_3, lit_4, lit_5, lit_6, lit_7, lit_8, lit_9, lit_10, lit_11, lit_12, lit_13, lit_14, lit_20, lit_23, lit_24, lit_32, lit_33, lit_35, lit_40, lit_43, lit_45, lit_46, lit_47, lit_48, lit_49, lit_50, lit_57, lit_58, lit_59, lit_60, lit_61, lit_63, lit_64, lit_77, lit_95, lit_98, lit_99, lit_101, lit_104, lit_111, lit_112, lit_114, lit_116, lit_122, lit_127, lit_139, lit_147, lit_180, lit_255, lit_1000, lit_1029, I_lt, I_le, I_eq, I_cl, I_inb, if_pos, if_neg, eq_self, ite_true, ite_false, Int.zero_add, Int.add_zero]
          rw [if_pos (decide_eq_false e3)]
      · rw [if_neg (by rw [decide_eq_false e2]; simp)]
        simp (disch := omega) only [brn_if, grd_if, ↓bnd_some, bnd_some, bnd_if, bnd_none, J_at, I_add, I_sub, I_mul, I_neg, lit_0, lit_1, lit_2, lit_3, lit_4, lit_5, lit_6, lit_7, lit_8, lit_9, lit_10, lit_11, lit_12, lit_13, lit_14, lit_20, lit_23, lit_24, lit_32, lit_33, lit_35, lit_40, lit_43, lit_45, lit_46, lit_47, lit_48, lit_49, lit_50, lit_57, lit_58, lit_59, lit_60, lit_61, lit_63, lit_64, lit_77, lit_95, lit_98, lit_99, lit_101, lit_104, lit_111, lit_112, lit_114, lit_116, lit_122, lit_127, lit_139, lit_147, lit_180, lit_255, lit_1000, lit_1029, I_lt, I_le, I_eq, I_cl, I_inb, if_pos, if_neg, eq_self, ite_true, ite_false, Int.zero_add, Int.add_zero]
  have g := go (σ 3).toNat 0 100 (by omega) (by omega)
  unfold F_X1_around
  rw [lit_0]
  refine g.trans ?_
  rw [fl_eq]
  · rfl
  · intro i j hi hj e1 e2
    unfold inL at e1 e2
    simp only [Bool.and_eq_true, decide_eq_true_eq] at e1 e2
    refine Classical.byContradiction (fun ne => ?_)
    have := h.apart (i := i) (j := j) (by omega) (by omega) ne (e1.1.symm.trans e2.1)
    omega
theorem x_pOn (h : WF b σ) {a : Nat → Int32} (ha : AR a (fun j => σ (139 + 2 * j)) (σ 4)) {c : Int} (hc : InR c) : F_X5_on (I c) (I (σ 4)) a = some (I (pOn σ c)) := by
  have hn := h.q
  unfold F_X5_on
  rw [x_place4 ha hn.1 hn.2 (fun k => h.r _) hc, bnd_some, fl_eq]
  · rfl
  · intro i j hi hj e1 e2
    have e1 := of_decide_eq_true e1
    have e2 := of_decide_eq_true e2
    exact h.oneP (by omega) (by omega) (e1.trans e2.symm)
theorem x_isBlocked (h : WF b σ) {a : Nat → Int32} (ha : AR a (fun c => σ (13 + c)) 64) {c : Int} (h1 : 0 ≤ c) (h2 : c ≤ 63) : F_X9_isBlocked (I c) a = some (bI (blkB σ c)) := by
  obtain ⟨k, rfl⟩ := Int.eq_ofNat_of_zero_le h1
  have hr := h.r (13 + k)
  unfold F_X9_isBlocked blkB
  rw [x_at64 ha (i := k) (by omega) (by omega), bnd_some, lit_1, brn_if]
  simp (disch := omega) only [I_eq]
  rw [← lit_1, bI_ite]
  rfl
theorem x_told (h : WF b σ) {a : Nat → Int32} (ha : AR a (fun j => σ (140 + 2 * j)) (σ 4)) {j : Nat} (hj : (j : Int) < σ 4) : F_X5_toldAt (I j) a = some (I (σ (140 + 2 * j))) := by
  unfold F_X5_toldAt
  rw [x_at4 ha hj h.q.2, bnd_some]
theorem x_pcell (h : WF b σ) {a : Nat → Int32} (ha : AR a (fun j => σ (139 + 2 * j)) (σ 4)) {j : Nat} (hj : (j : Int) < σ 4) : F_X5_cellAt (I j) a = some (I (σ (139 + 2 * j))) := by
  unfold F_X5_cellAt
  rw [x_at4 ha hj h.q.2, bnd_some]
theorem x_agreed (h : WF b σ) {a1 a2 : Nat → Int32} (h1 : AR a1 (fun j => σ (139 + 2 * j)) (σ 4)) (h2 : AR a2 (fun j => σ (140 + 2 * j)) (σ 4)) {c : Int} (hc1 : 0 ≤ c) (hc2 : c ≤ 63) : F_X5_isAgreedOn (I c) (I (σ 4)) a1 a2 = some (bI (allB (agB σ c) (σ 4).toNat 0)) := by
  have hn := h.q
  have go : ∀ (r k t : Nat), (k : Int) + r = σ 4 → r < t → L_X5_isAgreedOn_2 (I c) (I (σ 4)) a1 a2 t (I k) = some (bI (allB (agB σ c) r k)) := by
    intro r
    induction r with
    | zero =>
      intro k t hk ht
      obtain ⟨t, rfl⟩ : ∃ g, t = g + 1 := ⟨t - 1, by omega⟩
      rw [L_X5_isAgreedOn_2, allB]
      simp (disch := omega) only [brn_if, grd_if, ↓bnd_some, bnd_some, bnd_if, bnd_none, J_at, I_add, I_sub, I_mul, I_neg, lit_0, lit_1, lit_2, lit_3, lit_4, lit_5, lit_6, lit_7, lit_8, lit_9, lit_10, lit_11, lit_12, lit_13, lit_14, lit_20, lit_23, lit_24, lit_32, lit_33, lit_35, lit_40, lit_43, lit_45, lit_46, lit_47, lit_48, lit_49, lit_50, lit_57, lit_58, lit_59, lit_60, lit_61, lit_63, lit_64, lit_77, lit_95, lit_98, lit_99, lit_101, lit_104, lit_111, lit_112, lit_114, lit_116, lit_122, lit_127, lit_139, lit_147, lit_180, lit_255, lit_1000, lit_1029, I_lt, I_le, I_eq, I_cl, I_inb, if_pos, if_neg, eq_self, ite_true, ite_false, Int.zero_add, Int.add_zero]
      rfl
    | succ r ih =>
      intro k t hk ht
      obtain ⟨t, rfl⟩ : ∃ g, t = g + 1 := ⟨t - 1, by omega⟩
      have hh := h.post (j := k) (by omega)
      have hf := far_in hh.1.1 hh.1.2 hc1 hc2
      have e1 := ih (k + 1) t (by omega) (by omega)
      rw [show ((k + 1 : Nat) : Int) = (k : Int) + 1 by omega] at e1
      rw [L_X5_isAgreedOn_2, allB, x_told h h2 (j := k) (by omega), x_pcell h h1 (j := k) (by omega)]
      simp only [bnd_some]
      rw [x_dist hh.1.1 hh.1.2 hc1 hc2]
      simp only [bnd_some, lit_1, I_add, e1]
      unfold agB
      rw [far_sym c]
      have t0 : I 0 = bI false := by decide
      by_cases e2 : σ (140 + 2 * k) < 0
      · have e3 : σ (140 + 2 * k) = -1 := by omega
        simp (disch := omega) only [brn_if, grd_if, ↓bnd_some, bnd_some, bnd_if, bnd_none, J_at, I_add, I_sub, I_mul, I_neg, lit_0, lit_1, lit_2, lit_3, lit_4, lit_5, lit_6, lit_7, lit_8, lit_9, lit_10, lit_11, lit_12, lit_13, lit_14, lit_20, lit_23, lit_24, lit_32, lit_33, lit_35, lit_40, lit_43, lit_45, lit_46, lit_47, lit_48, lit_49, lit_50, lit_57, lit_58, lit_59, lit_60, lit_61, lit_63, lit_64, lit_77, lit_95, lit_98, lit_99, lit_101, lit_104, lit_111, lit_112, lit_114, lit_116, lit_122, lit_127, lit_139, lit_147, lit_180, lit_255, lit_1000, lit_1029, I_lt, I_le, I_eq, I_cl, I_inb, if_pos, if_neg, eq_self, ite_true, ite_false, Int.zero_add, Int.add_zero]
        rw [decide_eq_true e2]; rfl
      · by_cases e3 : far (σ (139 + 2 * k)) c = σ (140 + 2 * k)
        · simp (disch := omega) only [brn_if, grd_if, ↓bnd_some, bnd_some, bnd_if, bnd_none, J_at, I_add, I_sub, I_mul, I_neg, lit_0, lit_1, lit_2, lit_3, lit_4, lit_5, lit_6, lit_7, lit_8, lit_9, lit_10, lit_11, lit_12, lit_13, lit_14, lit_20, lit_23, lit_24, lit_32, lit_33, lit_35, lit_40, lit_43, lit_45, lit_46, lit_47, lit_48, lit_49, lit_50, lit_57, lit_58, lit_59, lit_60, lit_61, lit_63, lit_64, lit_77, lit_95, lit_98, lit_99, lit_101, lit_104, lit_111, lit_112, lit_114, lit_116, lit_122, lit_127, lit_139, lit_147, lit_180, lit_255, lit_1000, lit_1029, I_lt, I_le, I_eq, I_cl, I_inb, if_pos, if_neg, eq_self, ite_true, ite_false, Int.zero_add, Int.add_zero]
          rw [decide_eq_true e3, Bool.or_true, Bool.true_and]
        · simp (disch := omega) only [brn_if, grd_if, ↓bnd_some, bnd_some, bnd_if, bnd_none, J_at, I_add, I_sub, I_mul, I_neg, lit_0, lit_1, lit_2, lit_3, lit_4, lit_5, lit_6, lit_7, lit_8, lit_9, lit_10, lit_11, lit_12, lit_13, lit_14, lit_20, lit_23, lit_24, lit_32, lit_33, lit_35, lit_40, lit_43, lit_45, lit_46, lit_47, lit_48, lit_49, lit_50, lit_57, lit_58, lit_59, lit_60, lit_61, lit_63, lit_64, lit_77, lit_95, lit_98, lit_99, lit_101, lit_104, lit_111, lit_112, lit_114, lit_116, lit_122, lit_127, lit_139, lit_147, lit_180, lit_255, lit_1000, lit_1029, I_lt, I_le, I_eq, I_cl, I_inb, if_pos, if_neg, eq_self, ite_true, ite_false, Int.zero_add, Int.add_zero]
          rw [decide_eq_false e2, decide_eq_false e3, t0]; rfl
  have g := go (σ 4).toNat 0 100 (by omega) (by omega)
  unfold F_X5_isAgreedOn
  rw [lit_0]
  exact g
theorem x_canBe (h : WF b σ) {a1 a2 a3 : Nat → Int32} (h1 : AR a1 (fun j => σ (139 + 2 * j)) (σ 4)) (h2 : AR a2 (fun j => σ (140 + 2 * j)) (σ 4)) (h3 : AR a3 (fun c => σ (13 + c)) 64) {c : Int} (hc1 : 0 ≤ c) (hc2 : c ≤ 63) : F_X9_canBeFrom (I c) (I (σ 4)) a1 a2 a3 = some (bI (canB σ c)) := by
  unfold F_X9_canBeFrom canB
  rw [x_isBlocked h h3 hc1 hc2, bnd_some]
  simp only [bI_0]
  rw [x_agreed h h1 h2 hc1 hc2, bnd_some]
  simp only [bI_0]
  cases blkB σ c
  · rw [brn_pos _ _ rfl]
    cases allB (agB σ c) (σ 4).toNat 0
    · rfl
    · rfl
  · rfl
theorem x_canN (h : WF b σ) {a1 a2 a3 : Nat → Int32} (h1 : AR a1 (fun j => σ (139 + 2 * j)) (σ 4)) (h2 : AR a2 (fun j => σ (140 + 2 * j)) (σ 4)) (h3 : AR a3 (fun c => σ (13 + c)) 64) : F_X9_countFits (I (σ 4)) a1 a2 a3 = some (I (canN σ)) := by
  have go : ∀ (r k f : Nat) (a : Int), k + r = 64 → r < f → L_X9_countFits_4 (I (σ 4)) a1 a2 a3 f (I a) (I k) = some (I (a + cnt (fun c => canB σ c) r k)) := by
    intro r
    induction r with
    | zero =>
      intro k f a hk hf
      obtain ⟨f, rfl⟩ : ∃ g, f = g + 1 := ⟨f - 1, by omega⟩
      rw [L_X9_countFits_4, cnt, Int.add_zero]
      simp (disch := omega) only [brn_if, grd_if, ↓bnd_some, bnd_some, bnd_if, bnd_none, J_at, I_add, I_sub, I_mul, I_neg, lit_0, lit_1, lit_2, lit_3, lit_4, lit_5, lit_6, lit_7, lit_8, lit_9, lit_10, lit_11, lit_12, lit_13, lit_14, lit_20, lit_23, lit_24, lit_32, lit_33, lit_35, lit_40, lit_43, lit_45, lit_46, lit_47, lit_48, lit_49, lit_50, lit_57, lit_58, lit_59, lit_60, lit_61, lit_63, lit_64, lit_77, lit_95, lit_98, lit_99, lit_101, lit_104, lit_111, lit_112, lit_114, lit_116, lit_122, lit_127, lit_139, lit_147, lit_180, lit_255, lit_1000, lit_1029, I_lt, I_le, I_eq, I_cl, I_inb, if_pos, if_neg, eq_self, ite_true, ite_false, Int.zero_add, Int.add_zero]
    | succ r ih =>
      intro k f a hk hf
      obtain ⟨f, rfl⟩ : ∃ g, f = g + 1 := ⟨f - 1, by omega⟩
      have hs := x_canBe h h1 h2 h3 (c := k) (by omega) (by omega)
      rw [L_X9_countFits_4, cnt, hs]
      cases hb : canB σ k
      · simp (disch := omega) only [brn_if, grd_if, ↓bnd_some, bnd_some, bnd_if, bnd_none, J_at, I_add, I_sub, I_mul, I_neg, lit_0, lit_1, lit_2, lit_3, lit_4, lit_5, lit_6, lit_7, lit_8, lit_9, lit_10, lit_11, lit_12, lit_13, lit_14, lit_20, lit_23, lit_24, lit_32, lit_33, lit_35, lit_40, lit_43, lit_45, lit_46, lit_47, lit_48, lit_49, lit_50, lit_57, lit_58, lit_59, lit_60, lit_61, lit_63, lit_64, lit_77, lit_95, lit_98, lit_99, lit_101, lit_104, lit_111, lit_112, lit_114, lit_116, lit_122, lit_127, lit_139, lit_147, lit_180, lit_255, lit_1000, lit_1029, I_lt, I_le, I_eq, I_cl, I_inb, if_pos, if_neg, eq_self, ite_true, ite_false, Int.zero_add, Int.add_zero, bI, Bool.false_eq_true]
        exact ih (k + 1) f a (by omega) (by omega)
      · simp (disch := omega) only [brn_if, grd_if, ↓bnd_some, bnd_some, bnd_if, bnd_none, J_at, I_add, I_sub, I_mul, I_neg, lit_0, lit_1, lit_2, lit_3, lit_4, lit_5, lit_6, lit_7, lit_8, lit_9, lit_10, lit_11, lit_12, lit_13, lit_14, lit_20, lit_23, lit_24, lit_32, lit_33, lit_35, lit_40, lit_43, lit_45, lit_46, lit_47, lit_48, lit_49, lit_50, lit_57, lit_58, lit_59, lit_60, lit_61, lit_63, lit_64, lit_77, lit_95, lit_98, lit_99, lit_101, lit_104, lit_111, lit_112, lit_114, lit_116, lit_122, lit_127, lit_139, lit_147, lit_180, lit_255, lit_1000, lit_1029, I_lt, I_le, I_eq, I_cl, I_inb, if_pos, if_neg, eq_self, ite_true, ite_false, Int.zero_add, Int.add_zero, bI]
        rw [← Int.add_assoc]
        exact ih (k + 1) f (a + 1) (by omega) (by omega)
  have := go 64 0 100 0 (by omega) (by omega)
  unfold F_X9_countFits canN
  rw [lit_0]
  refine Eq.trans this ?_
  rw [Int.zero_add]
theorem x_blkN {a : Nat → Int32} (ha : AR a (fun c => σ (13 + c)) 64) : F_X9_countBlocks a = some (I (blkN σ)) := by
  unfold F_X9_countBlocks
  rw [x_sum (N := 64) (by decide) (f := fun c => σ (13 + c)) ha, bnd_some]
  rfl
theorem x_telN (h : WF b σ) {a2 : Nat → Int32} (h2 : AR a2 (fun j => σ (140 + 2 * j)) (σ 4)) : F_X5_countTellers (I (σ 4)) a2 = some (I (telN σ)) := by
  have hn := h.q
  have go : ∀ (r k f : Nat) (a : Int), (k : Int) + r = σ 4 → r < f → L_X5_countTellers_4 (I (σ 4)) a2 f (I a) (I k) = some (I (a + cnt (fun j => decide (0 ≤ σ (140 + 2 * j))) r k)) := by
    intro r
    induction r with
    | zero =>
      intro k f a hk hf
      obtain ⟨f, rfl⟩ : ∃ g, f = g + 1 := ⟨f - 1, by omega⟩
      rw [L_X5_countTellers_4, cnt, Int.add_zero]
      simp (disch := omega) only [brn_if, grd_if, ↓bnd_some, bnd_some, bnd_if, bnd_none, J_at, I_add, I_sub, I_mul, I_neg, lit_0, lit_1, lit_2, lit_3, lit_4, lit_5, lit_6, lit_7, lit_8, lit_9, lit_10, lit_11, lit_12, lit_13, lit_14, lit_20, lit_23, lit_24, lit_32, lit_33, lit_35, lit_40, lit_43, lit_45, lit_46, lit_47, lit_48, lit_49, lit_50, lit_57, lit_58, lit_59, lit_60, lit_61, lit_63, lit_64, lit_77, lit_95, lit_98, lit_99, lit_101, lit_104, lit_111, lit_112, lit_114, lit_116, lit_122, lit_127, lit_139, lit_147, lit_180, lit_255, lit_1000, lit_1029, I_lt, I_le, I_eq, I_cl, I_inb, if_pos, if_neg, eq_self, ite_true, ite_false, Int.zero_add, Int.add_zero]
    | succ r ih =>
      intro k f a hk hf
      obtain ⟨f, rfl⟩ : ∃ g, f = g + 1 := ⟨f - 1, by omega⟩
      have hh := h.post (j := k) (by omega)
      rw [L_X5_countTellers_4, cnt, x_told h h2 (j := k) (by omega)]
      by_cases e : 0 ≤ σ (140 + 2 * k)
      · simp (disch := omega) only [brn_if, grd_if, ↓bnd_some, bnd_some, bnd_if, bnd_none, J_at, I_add, I_sub, I_mul, I_neg, lit_0, lit_1, lit_2, lit_3, lit_4, lit_5, lit_6, lit_7, lit_8, lit_9, lit_10, lit_11, lit_12, lit_13, lit_14, lit_20, lit_23, lit_24, lit_32, lit_33, lit_35, lit_40, lit_43, lit_45, lit_46, lit_47, lit_48, lit_49, lit_50, lit_57, lit_58, lit_59, lit_60, lit_61, lit_63, lit_64, lit_77, lit_95, lit_98, lit_99, lit_101, lit_104, lit_111, lit_112, lit_114, lit_116, lit_122, lit_127, lit_139, lit_147, lit_180, lit_255, lit_1000, lit_1029, I_lt, I_le, I_eq, I_cl, I_inb, if_pos, if_neg, eq_self, ite_true, ite_false, Int.zero_add, Int.add_zero, decide_eq_true_eq]
        rw [← Int.add_assoc]
        exact ih (k + 1) f (a + 1) (by omega) (by omega)
      · simp (disch := omega) only [brn_if, grd_if, ↓bnd_some, bnd_some, bnd_if, bnd_none, J_at, I_add, I_sub, I_mul, I_neg, lit_0, lit_1, lit_2, lit_3, lit_4, lit_5, lit_6, lit_7, lit_8, lit_9, lit_10, lit_11, lit_12, lit_13, lit_14, lit_20, lit_23, lit_24, lit_32, lit_33, lit_35, lit_40, lit_43, lit_45, lit_46, lit_47, lit_48, lit_49, lit_50, lit_57, lit_58, lit_59, lit_60, lit_61, lit_63, lit_64, lit_77, lit_95, lit_98, lit_99, lit_101, lit_104, lit_111, lit_112, lit_114, lit_116, lit_122, lit_127, lit_139, lit_147, lit_180, lit_255, lit_1000, lit_1029, I_lt, I_le, I_eq, I_cl, I_inb, if_pos, if_neg, eq_self, ite_true, ite_false, Int.zero_add, Int.add_zero, decide_eq_true_eq]
        exact ih (k + 1) f a (by omega) (by omega)
  have := go (σ 4).toNat 0 100 0 (by omega) (by omega)
  unfold F_X5_countTellers telN
  rw [lit_0]
  refine Eq.trans this ?_
  rw [Int.zero_add]
theorem x_first (h : WF b σ) {a2 : Nat → Int32} (h2 : AR a2 (fun j => σ (140 + 2 * j)) (σ 4)) : F_X5_firstTeller (I (σ 4)) a2 = some (I (fIx (fun j => decide (0 ≤ σ (140 + 2 * j))) (σ 4).toNat 0)) := by
  have hn := h.q
  have go : ∀ (r k f : Nat), (k : Int) + r = σ 4 → r < f → L_X5_firstTeller_2 (I (σ 4)) a2 f (I k) = some (I (fIx (fun j => decide (0 ≤ σ (140 + 2 * j))) r k)) := by
    intro r
    induction r with
    | zero =>
      intro k f hk hf
      obtain ⟨f, rfl⟩ : ∃ g, f = g + 1 := ⟨f - 1, by omega⟩
      rw [L_X5_firstTeller_2, fIx]
      simp (disch := omega) only [brn_if, grd_if, ↓bnd_some, bnd_some, bnd_if, bnd_none, J_at, I_add, I_sub, I_mul, I_neg, lit_0, lit_1, lit_2, lit_3, lit_4, lit_5, lit_6, lit_7, lit_8, lit_9, lit_10, lit_11, lit_12, lit_13, lit_14, lit_20, lit_23, lit_24, lit_32, lit_33, lit_35, lit_40, lit_43, lit_45, lit_46, lit_47, lit_48, lit_49, lit_50, lit_57, lit_58, lit_59, lit_60, lit_61, lit_63, lit_64, lit_77, lit_95, lit_98, lit_99, lit_101, lit_104, lit_111, lit_112, lit_114, lit_116, lit_122, lit_127, lit_139, lit_147, lit_180, lit_255, lit_1000, lit_1029, I_lt, I_le, I_eq, I_cl, I_inb, if_pos, if_neg, eq_self, ite_true, ite_false, Int.zero_add, Int.add_zero]
    | succ r ih =>
      intro k f hk hf
      obtain ⟨f, rfl⟩ : ∃ g, f = g + 1 := ⟨f - 1, by omega⟩
      have hh := h.post (j := k) (by omega)
      rw [L_X5_firstTeller_2, fIx, x_told h h2 (j := k) (by omega)]
      by_cases e : 0 ≤ σ (140 + 2 * k)
      · simp (disch := omega) only [brn_if, grd_if, ↓bnd_some, bnd_some, bnd_if, bnd_none, J_at, I_add, I_sub, I_mul, I_neg, lit_0, lit_1, lit_2, lit_3, lit_4, lit_5, lit_6, lit_7, lit_8, lit_9, lit_10, lit_11, lit_12, lit_13, lit_14, lit_20, lit_23, lit_24, lit_32, lit_33, lit_35, lit_40, lit_43, lit_45, lit_46, lit_47, lit_48, lit_49, lit_50, lit_57, lit_58, lit_59, lit_60, lit_61, lit_63, lit_64, lit_77, lit_95, lit_98, lit_99, lit_101, lit_104, lit_111, lit_112, lit_114, lit_116, lit_122, lit_127, lit_139, lit_147, lit_180, lit_255, lit_1000, lit_1029, I_lt, I_le, I_eq, I_cl, I_inb, if_pos, if_neg, eq_self, ite_true, ite_false, Int.zero_add, Int.add_zero, decide_eq_true_eq]
      · simp (disch := omega) only [brn_if, grd_if, ↓bnd_some, bnd_some, bnd_if, bnd_none, J_at, I_add, I_sub, I_mul, I_neg, lit_0, lit_1, lit_2, lit_3, lit_4, lit_5, lit_6, lit_7, lit_8, lit_9, lit_10, lit_11, lit_12, lit_13, lit_14, lit_20, lit_23, lit_24, lit_32, lit_33, lit_35, lit_40, lit_43, lit_45, lit_46, lit_47, lit_48, lit_49, lit_50, lit_57, lit_58, lit_59, lit_60, lit_61, lit_63, lit_64, lit_77, lit_95, lit_98, lit_99, lit_101, lit_104, lit_111, lit_112, lit_114, lit_116, lit_122, lit_127, lit_139, lit_147, lit_180, lit_255, lit_1000, lit_1029, I_lt, I_le, I_eq, I_cl, I_inb, if_pos, if_neg, eq_self, ite_true, ite_false, Int.zero_add, Int.add_zero, decide_eq_true_eq]
        exact ih (k + 1) f (by omega) (by omega)
  have := go (σ 4).toNat 0 100 (by omega) (by omega)
  unfold F_X5_firstTeller
  rw [lit_0]
  exact this
theorem x_hcell (h : WF b σ) {a : Nat → Int32} (ha : AR a (fun i => σ (77 + 5 * i)) (σ 2)) {i : Nat} (hi : (i : Int) < σ 2) : F_X2_cellAt (I i) a = some (I (σ (77 + 5 * i))) := by
  unfold F_X2_cellAt
  rw [x_at10 ha hi h.n.2, bnd_some]
theorem x_echoed (h : WF b σ) {a a1 a2 a3 : Nat → Int32} (ha : AR a (fun i => σ (77 + 5 * i)) (σ 2)) (h1 : AR a1 (fun j => σ (127 + 3 * j)) (σ 3)) (h2 : AR a2 (fun j => σ (128 + 3 * j)) (σ 3)) (h3 : AR a3 (fun j => σ (129 + 3 * j)) (σ 3)) {i j : Nat} (hi : (i : Int) < σ 2) (hj : (j : Int) < σ 2) : F_X9_isEchoed (I i) (I j) a (I (σ 3)) a1 a2 a3 = some (bI (inH σ i j)) := by
  have hn := h.n
  have c1 := h.house hi
  have c2 := h.house hj
  have b1 := lOn_in h (σ (77 + 5 * i))
  have b2 := lOn_in h (σ (77 + 5 * j))
  have b3 := h.m
  unfold F_X9_isEchoed inH
  rw [x_hcell h ha hi, bnd_some, x_lOn h h1 h2 h3 c1.1.1 c1.1.2, bnd_some, x_hcell h ha hj, bnd_some, x_lOn h h1 h2 h3 c2.1.1 c2.1.2, bnd_some, m1, lit_0, lit_1]
  simp (disch := omega) only [I_eq, I_lt]
  by_cases e1 : i = j
  · rw [brn_pos _ _ (by omega), decide_eq_false (by omega)]
    rfl
  · rw [brn_neg _ _ (by omega), decide_eq_true (by omega)]
    by_cases e2 : lOn σ (σ (77 + 5 * i)) = -1
    · rw [brn_pos _ _ e2, decide_eq_false (by omega)]
      rfl
    · rw [brn_neg _ _ e2, decide_eq_true (by omega), brn_if, ← lit_0, ← lit_1, bI_ite]
      congr 2
      exact decide_eq_decide.mpr eq_comm
theorem x_shorts (h : WF b σ) {a : Nat → Int32} (ha : AR a (fun i => σ (77 + 5 * i)) (σ 2)) {i j : Nat} (hi : (i : Int) < σ 2) (hj : (j : Int) < σ 2) {x : Int} (h3 : 0 ≤ x) (h4 : x ≤ 9) : F_X9_shortsLeft (I i) (I j) (I x) a = some (I (shA σ i j x)) := by
  have a1 := h.house hi
  have a2 := h.house hj
  have a3 := far_in a1.1.1 a1.1.2 a2.1.1 a2.1.2
  unfold F_X9_shortsLeft shA
  rw [x_hcell h ha hi, bnd_some, x_hcell h ha hj, bnd_some, x_dist a1.1.1 a1.1.2 a2.1.1 a2.1.2, bnd_some, lit_0]
  simp (disch := omega) only [I_sub, I_lt, I_ite]
theorem x_heardAt (h : WF b σ) {a a1 a2 a3 : Nat → Int32} (ha : AR a (fun i => σ (77 + 5 * i)) (σ 2)) (h1 : AR a1 (fun j => σ (127 + 3 * j)) (σ 3)) (h2 : AR a2 (fun j => σ (128 + 3 * j)) (σ 3)) (h3 : AR a3 (fun j => σ (129 + 3 * j)) (σ 3)) {i j : Nat} (hi : (i : Int) < σ 2) (hj : (j : Int) < σ 2) {x y : Int} (h4 : 0 ≤ x) (h5 : x ≤ 9) (h6 : 0 ≤ y) (h7 : y ≤ 9) : F_X9_isHeardAt (I i) (I j) (I x) (I y) a (I (σ 3)) a1 a2 a3 = some (bI (ecB σ i j x y)) := by
  have a3' := shA_in h hi hj h4
  unfold F_X9_isHeardAt ecB
  rw [x_echoed h ha h1 h2 h3 hi hj, bnd_some]
  simp only [bI_0]
  rw [x_shorts h ha hi hj h4 h5, bnd_some]
  cases hb : inH σ i j
  · rfl
  · rw [brn_neg _ _ (by simp), lit_0, I_add, brn_if]
    simp (disch := omega) only [I_le]
    rw [← lit_0, bI_iteN, ← decide_not]
    congr 2
    exact decide_eq_decide.mpr (by omega)
theorem x_kind (h : WF b σ) {a1 a2 : Nat → Int32} (h1 : AR a1 (fun i => σ (78 + 5 * i)) (σ 2)) (h2 : AR a2 (fun i => σ (79 + 5 * i)) (σ 2)) {i : Nat} (hi : (i : Int) < σ 2) {t x y : Int} (g1 : 0 ≤ t) (g2 : t ≤ 23) (g3 : 0 ≤ x) (g4 : x ≤ 9) (g5 : 0 ≤ y) (g6 : y ≤ 9) (g7 : 0 < x + y) : F_X9_kindAt (I i) (I t) (I x) (I y) a1 a2 = some (I (kd σ i t x y)) := by
  have hs := x_isAsleep h h1 h2 hi g1 g2
  unfold F_X9_kindAt J_X9_kindAt_28 J_X9_kindAt_56 kd
  rw [hs, bnd_some]
  simp only [bI_0]
  rw [bnd_some]
  simp only [bI_0]
  by_cases e1 : y = 0
  · by_cases e2 : x = 1
    · rw [if_pos (by omega)]
      simp (disch := omega) only [brn_if, grd_if, ↓bnd_some, bnd_some, bnd_if, bnd_none, J_at, I_add, I_sub, I_mul, I_neg, lit_0, lit_1, lit_2, lit_3, lit_4, lit_5, lit_6, lit_7, lit_8, lit_9, lit_10, lit_11, lit_12, lit_13, lit_14, lit_20, lit_23, lit_24, lit_32, lit_33, lit_35, lit_40, lit_43, lit_45, lit_46, lit_47, lit_48, lit_49, lit_50, lit_57, lit_58, lit_59, lit_60, lit_61, lit_63, lit_64, lit_77, lit_95, lit_98, lit_99, lit_101, lit_104, lit_111, lit_112, lit_114, lit_116, lit_122, lit_127, lit_139, lit_147, lit_180, lit_255, lit_1000, lit_1029, I_lt, I_le, I_eq, I_cl, I_inb, if_pos, if_neg, eq_self, ite_true, ite_false, Int.zero_add, Int.add_zero]
      cases hb : slB σ i t <;> simp [e2]
    · by_cases e3 : x = 2
      · rw [if_pos (by omega)]
        simp (disch := omega) only [brn_if, grd_if, ↓bnd_some, bnd_some, bnd_if, bnd_none, J_at, I_add, I_sub, I_mul, I_neg, lit_0, lit_1, lit_2, lit_3, lit_4, lit_5, lit_6, lit_7, lit_8, lit_9, lit_10, lit_11, lit_12, lit_13, lit_14, lit_20, lit_23, lit_24, lit_32, lit_33, lit_35, lit_40, lit_43, lit_45, lit_46, lit_47, lit_48, lit_49, lit_50, lit_57, lit_58, lit_59, lit_60, lit_61, lit_63, lit_64, lit_77, lit_95, lit_98, lit_99, lit_101, lit_104, lit_111, lit_112, lit_114, lit_116, lit_122, lit_127, lit_139, lit_147, lit_180, lit_255, lit_1000, lit_1029, I_lt, I_le, I_eq, I_cl, I_inb, if_pos, if_neg, eq_self, ite_true, ite_false, Int.zero_add, Int.add_zero]
        cases hb : slB σ i t <;> simp [e3]
      · rw [if_neg (by omega), if_neg (by omega)]
        simp (disch := omega) only [brn_if, grd_if, ↓bnd_some, bnd_some, bnd_if, bnd_none, J_at, I_add, I_sub, I_mul, I_neg, lit_0, lit_1, lit_2, lit_3, lit_4, lit_5, lit_6, lit_7, lit_8, lit_9, lit_10, lit_11, lit_12, lit_13, lit_14, lit_20, lit_23, lit_24, lit_32, lit_33, lit_35, lit_40, lit_43, lit_45, lit_46, lit_47, lit_48, lit_49, lit_50, lit_57, lit_58, lit_59, lit_60, lit_61, lit_63, lit_64, lit_77, lit_95, lit_98, lit_99, lit_101, lit_104, lit_111, lit_112, lit_114, lit_116, lit_122, lit_127, lit_139, lit_147, lit_180, lit_255, lit_1000, lit_1029, I_lt, I_le, I_eq, I_cl, I_inb, if_pos, if_neg, eq_self, ite_true, ite_false, Int.zero_add, Int.add_zero]
  · rw [if_neg (by omega)]
    by_cases e3 : x = 0
    · by_cases e4 : y ≤ 2
      · rw [if_neg (by omega)]
        simp (disch := omega) only [brn_if, grd_if, ↓bnd_some, bnd_some, bnd_if, bnd_none, J_at, I_add, I_sub, I_mul, I_neg, lit_0, lit_1, lit_2, lit_3, lit_4, lit_5, lit_6, lit_7, lit_8, lit_9, lit_10, lit_11, lit_12, lit_13, lit_14, lit_20, lit_23, lit_24, lit_32, lit_33, lit_35, lit_40, lit_43, lit_45, lit_46, lit_47, lit_48, lit_49, lit_50, lit_57, lit_58, lit_59, lit_60, lit_61, lit_63, lit_64, lit_77, lit_95, lit_98, lit_99, lit_101, lit_104, lit_111, lit_112, lit_114, lit_116, lit_122, lit_127, lit_139, lit_147, lit_180, lit_255, lit_1000, lit_1029, I_lt, I_le, I_eq, I_cl, I_inb, if_pos, if_neg, eq_self, ite_true, ite_false, Int.zero_add, Int.add_zero]
      · rw [if_pos (by omega)]
        simp (disch := omega) only [brn_if, grd_if, ↓bnd_some, bnd_some, bnd_if, bnd_none, J_at, I_add, I_sub, I_mul, I_neg, lit_0, lit_1, lit_2, lit_3, lit_4, lit_5, lit_6, lit_7, lit_8, lit_9, lit_10, lit_11, lit_12, lit_13, lit_14, lit_20, lit_23, lit_24, lit_32, lit_33, lit_35, lit_40, lit_43, lit_45, lit_46, lit_47, lit_48, lit_49, lit_50, lit_57, lit_58, lit_59, lit_60, lit_61, lit_63, lit_64, lit_77, lit_95, lit_98, lit_99, lit_101, lit_104, lit_111, lit_112, lit_114, lit_116, lit_122, lit_127, lit_139, lit_147, lit_180, lit_255, lit_1000, lit_1029, I_lt, I_le, I_eq, I_cl, I_inb, if_pos, if_neg, eq_self, ite_true, ite_false, Int.zero_add, Int.add_zero]
    · rw [if_neg (by omega)]
      simp (disch := omega) only [brn_if, grd_if, ↓bnd_some, bnd_some, bnd_if, bnd_none, J_at, I_add, I_sub, I_mul, I_neg, lit_0, lit_1, lit_2, lit_3, lit_4, lit_5, lit_6, lit_7, lit_8, lit_9, lit_10, lit_11, lit_12, lit_13, lit_14, lit_20, lit_23, lit_24, lit_32, lit_33, lit_35, lit_40, lit_43, lit_45, lit_46, lit_47, lit_48, lit_49, lit_50, lit_57, lit_58, lit_59, lit_60, lit_61, lit_63, lit_64, lit_77, lit_95, lit_98, lit_99, lit_101, lit_104, lit_111, lit_112, lit_114, lit_116, lit_122, lit_127, lit_139, lit_147, lit_180, lit_255, lit_1000, lit_1029, I_lt, I_le, I_eq, I_cl, I_inb, if_pos, if_neg, eq_self, ite_true, ite_false, Int.zero_add, Int.add_zero]
end CL2
