/-! ===== blocks, posts, hours ===== -/
section M3
variable {b : Int} {σ : Nat → Int} {v : TVal} {rn rd mr md : Int32}
def blockS (σ : Nat → Int) (c : Int) : Nat → Int := U σ (13 + c).toNat (1 - σ (13 + c).toNat)
theorem blk_at (h : WF b σ) {c : Int} (h1 : 0 ≤ c) (h2 : c ≤ 63) : σ (13 + c).toNat = if blkB σ c = true then 1 else 0 := by
  have e : (13 + c).toNat = 13 + c.toNat := by omega
  have := h.blk (c := c.toNat) (by omega)
  unfold blkB
  rw [e]
  rcases this with q | q
  · rw [q]; rfl
  · rw [q]; rfl
theorem j_block (h : WF b σ) (T : TR σ v) {a : Int} (ha : InR a) (hq : RQ rn rd mr md) (mi : Int32) :
    JB [(2, 1), (3, 2)] mi σ (F_X9_judgeBlock (I a) (I (σ 2)) (v.2 0) rn rd) (F_X12_doBlock (I a) 0 mr md mi (J σ)) ∨
    (F_X9_judgeBlock (I a) (I (σ 2)) (v.2 0) rn rd = some (I 0, rn, rd) ∧ (0 ≤ a ∧ a ≤ 63) ∧ hOn σ a = -1) := by
  have hn := h.n
  have ho := hOn_in h a
  unfold F_X9_judgeBlock F_X12_doBlock F_X12_fails F_X6_refuse F_X12_refuse
  by_cases e1 : 0 ≤ a ∧ a ≤ 63
  · have k3 := x_hOn h T.a0 ha
    have k4 := m_houseOn h ha
    by_cases e4 : hOn σ a = -1
    · refine Or.inr ⟨?_, e1, e4⟩
      rw [x_cell_p ha e1, k3, e4]
      simp (disch := omega) only [brn_if, grd_if, ↓bnd_some, bnd_some, bnd_if, bnd_none, J_at, I_add, I_sub, I_mul, I_neg, lit_0, lit_1, lit_2, lit_3, lit_4, lit_5, lit_6, lit_7, lit_8, lit_9, lit_10, lit_11, lit_12, lit_13, lit_14, lit_20, lit_23, lit_24, lit_32, lit_33, lit_35, lit_40, lit_43, lit_45, lit_46, lit_47, lit_48, lit_49, lit_50, lit_57, lit_58, lit_59, lit_60, lit_61, lit_63, lit_64, lit_77, lit_95, lit_98, lit_99, lit_101, lit_104, lit_111, lit_112, lit_114, lit_116, lit_122, lit_127, lit_139, lit_147, lit_180, lit_255, lit_1000, lit_1029, I_lt, I_le, I_eq, I_cl, I_inb, if_pos, if_neg, eq_self, Bool.false_eq_true, ite_true, ite_false, Int.zero_add, Int.add_zero]
    · refine Or.inl ⟨3, 2, I 3, I (hOn σ a), I 3, I (hOn σ a), I 1, by decide, ?_, ?_, RQ_new (by omega) (by omega), Or.inl ⟨rfl, rfl⟩⟩
      · rw [x_cell_p ha e1, k3]
        simp (disch := omega) only [brn_if, grd_if, ↓bnd_some, bnd_some, bnd_if, bnd_none, J_at, I_add, I_sub, I_mul, I_neg, lit_0, lit_1, lit_2, lit_3, lit_4, lit_5, lit_6, lit_7, lit_8, lit_9, lit_10, lit_11, lit_12, lit_13, lit_14, lit_20, lit_23, lit_24, lit_32, lit_33, lit_35, lit_40, lit_43, lit_45, lit_46, lit_47, lit_48, lit_49, lit_50, lit_57, lit_58, lit_59, lit_60, lit_61, lit_63, lit_64, lit_77, lit_95, lit_98, lit_99, lit_101, lit_104, lit_111, lit_112, lit_114, lit_116, lit_122, lit_127, lit_139, lit_147, lit_180, lit_255, lit_1000, lit_1029, I_lt, I_le, I_eq, I_cl, I_inb, if_pos, if_neg, eq_self, Bool.false_eq_true, ite_true, ite_false, Int.zero_add, Int.add_zero]
      · rw [m_cell_p ha e1, k4]
        simp (disch := omega) only [brn_if, grd_if, ↓bnd_some, bnd_some, bnd_if, bnd_none, J_at, I_add, I_sub, I_mul, I_neg, lit_0, lit_1, lit_2, lit_3, lit_4, lit_5, lit_6, lit_7, lit_8, lit_9, lit_10, lit_11, lit_12, lit_13, lit_14, lit_20, lit_23, lit_24, lit_32, lit_33, lit_35, lit_40, lit_43, lit_45, lit_46, lit_47, lit_48, lit_49, lit_50, lit_57, lit_58, lit_59, lit_60, lit_61, lit_63, lit_64, lit_77, lit_95, lit_98, lit_99, lit_101, lit_104, lit_111, lit_112, lit_114, lit_116, lit_122, lit_127, lit_139, lit_147, lit_180, lit_255, lit_1000, lit_1029, I_lt, I_le, I_eq, I_cl, I_inb, if_pos, if_neg, eq_self, Bool.false_eq_true, ite_true, ite_false, Int.zero_add, Int.add_zero]
  · refine Or.inl ⟨2, 1, rn, rd, mr, md, mi, by decide, ?_, ?_, hq, Or.inr ⟨by decide, rfl⟩⟩
    · rw [x_cell_n ha e1]
      simp (disch := omega) only [brn_if, grd_if, ↓bnd_some, bnd_some, bnd_if, bnd_none, J_at, I_add, I_sub, I_mul, I_neg, lit_0, lit_1, lit_2, lit_3, lit_4, lit_5, lit_6, lit_7, lit_8, lit_9, lit_10, lit_11, lit_12, lit_13, lit_14, lit_20, lit_23, lit_24, lit_32, lit_33, lit_35, lit_40, lit_43, lit_45, lit_46, lit_47, lit_48, lit_49, lit_50, lit_57, lit_58, lit_59, lit_60, lit_61, lit_63, lit_64, lit_77, lit_95, lit_98, lit_99, lit_101, lit_104, lit_111, lit_112, lit_114, lit_116, lit_122, lit_127, lit_139, lit_147, lit_180, lit_255, lit_1000, lit_1029, I_lt, I_le, I_eq, I_cl, I_inb, if_pos, if_neg, eq_self, Bool.false_eq_true, ite_true, ite_false, Int.zero_add, Int.add_zero]
    · rw [m_cell_n ha e1, bnd_some, brn_pos _ _ (by decide)]
      rfl
theorem d_block_m (h : WF b σ) {a : Int} (e1 : 0 ≤ a ∧ a ≤ 63) (e5 : hOn σ a = -1) (mi : Int32) : F_X12_doBlock (I a) 0 mr md mi (J σ) = some (I (if blkB σ a = true then 0 else 1), I 0, mr, md, mi, J (blockS σ a)) := by
  have k4 := m_houseOn h (show InR a by omega)
  have kb := blk_at h e1.1 e1.2
  rw [e5] at k4
  unfold F_X12_doBlock blockS
  rw [m_cell_p (by omega) e1, k4]
  simp (disch := omega) only [brn_if, grd_if, ↓bnd_some, bnd_some, bnd_if, bnd_none, J_at, I_add, I_sub, I_mul, I_neg, lit_0, lit_1, lit_2, lit_3, lit_4, lit_5, lit_6, lit_7, lit_8, lit_9, lit_10, lit_11, lit_12, lit_13, lit_14, lit_20, lit_23, lit_24, lit_32, lit_33, lit_35, lit_40, lit_43, lit_45, lit_46, lit_47, lit_48, lit_49, lit_50, lit_57, lit_58, lit_59, lit_60, lit_61, lit_63, lit_64, lit_77, lit_95, lit_98, lit_99, lit_101, lit_104, lit_111, lit_112, lit_114, lit_116, lit_122, lit_127, lit_139, lit_147, lit_180, lit_255, lit_1000, lit_1029, I_lt, I_le, I_eq, I_cl, I_inb, if_pos, if_neg, eq_self, Bool.false_eq_true, ite_true, ite_false, Int.zero_add, Int.add_zero, J_upd, U_same]
  rw [kb]
  cases blkB σ a <;> rfl
theorem d_block_x (h : WF b σ) (T : TR σ v) {a : Int} (e1 : 0 ≤ a ∧ a ≤ 63) : F_X9_turnBlock (I a) (v.2 10) = some (I (if blkB σ a = true then 0 else 1), upd (v.2 10) a.toNat (I (if blkB σ a = true then 0 else 1))) := by
  have k1 := x_isBlocked h T.a10 e1.1 e1.2
  obtain ⟨n, rfl⟩ := Int.eq_ofNat_of_zero_le e1.1
  have p := fun (z : Int32) => x_put (N := 64) (by decide) (a := v.2 10) (i := n) (by omega) z
  have q := fun (z : Int32) => x_at0 (N := 64) (by decide) (a := upd (v.2 10) n z) (i := n) (by omega)
  have u := fun (z : Int32) => show upd (v.2 10) n z n = z from if_pos rfl
  unfold F_X9_turnBlock J_X9_turnBlock_18
  cases hb : blkB σ n
  · rw [hb, bI_f] at k1
    rw [k1, bnd_some, brn_pos _ _ (by decide), p, bnd_some]
    unfold F_X9_isBlocked
    rw [q, u, bnd_some, brn_pos _ _ rfl, bnd_some, grd_pos _ (by decide)]
    rfl
  · rw [hb, bI_t] at k1
    rw [k1, bnd_some, brn_neg _ _ (by decide), p, bnd_some]
    unfold F_X9_isBlocked
    rw [q, u, bnd_some, brn_neg _ _ (by decide), bnd_some, grd_pos _ (by decide)]
    rfl
theorem d_block_w (h : WF b σ) (T : TR σ v) {a : Int} (e1 : 0 ≤ a ∧ a ≤ 63) :
    WF b (blockS σ a) ∧ TR (blockS σ a) (tvMk (v.1 0) (v.1 1) (v.1 2) (v.1 3) (v.1 4) (v.1 5) (v.1 6) (v.1 7) (v.1 8) (v.2 0) (v.2 1) (v.2 2) (v.2 3) (v.2 4) (v.2 5) (v.2 6) (v.2 7) (v.2 8) (v.2 9) (upd (v.2 10) a.toNat (I (if blkB σ a = true then 0 else 1))) (v.2 11)) := by
  have kb := blk_at h e1.1 e1.2
  have kv : 1 - σ (13 + a).toNat = if blkB σ a = true then 0 else 1 := by rw [kb]; cases blkB σ a <;> rfl
  have he : ∀ k : Nat, k < 147 → ¬ (13 ≤ k ∧ k < 77) → blockS σ a k = σ k := by
    intro k h1 h2
    unfold blockS
    exact U_ne _ _ (by omega)
  have hb : ∀ c : Nat, c < 64 → blockS σ a (13 + c) = if c = a.toNat then (if blkB σ a = true then 0 else 1) else σ (13 + c) := by
    intro c hc
    unfold blockS U
    rw [kv]
    by_cases e : c = a.toNat
    · rw [if_pos e, if_pos (by omega)]
    · rw [if_neg e, if_neg (by omega)]
  refine ⟨WF_blk h ?_ he ?_, TR_blk h T he ?_⟩
  · exact U_r h.r (by rw [kv]; split <;> omega)
  · intro c hc
    rw [hb c hc]
    split
    · split
      · exact Or.inl rfl
      · exact Or.inr rfl
    · exact h.blk hc
  · exact AR_put T.a10 (fun i hi => hb i (by omega))
def postS (σ : Nat → Int) (a : Int) : Nat → Int := U (U (U σ (139 + 2 * σ 4).toNat a) (139 + 2 * σ 4 + 1).toNat (-1)) 4 (σ 4 + 1)
theorem j_post (h : WF b σ) (T : TR σ v) {a : Int} (ha : InR a) (hq : RQ rn rd mr md) (mi : Int32) :
    JB [(2, 1), (3, 2)] mi σ (F_X9_judgePost (I a) (I (σ 4)) (v.2 8) (v.2 10) rn rd) (F_X12_doPost (I a) 0 mr md mi (J σ)) ∨
    (F_X9_judgePost (I a) (I (σ 4)) (v.2 8) (v.2 10) rn rd = some (I 0, rn, rd) ∧ (0 ≤ a ∧ a ≤ 63) ∧ blkB σ a = false ∧ pOn σ a = -1 ∧ σ 4 < 4) := by
  have hn := h.q
  have ho := pOn_in h a
  unfold F_X9_judgePost F_X12_doPost F_X12_fails F_X5_isFull F_X6_refuse F_X12_refuse
  by_cases e1 : 0 ≤ a ∧ a ≤ 63
  · have k1 := x_isBlocked h T.a10 e1.1 e1.2
    have k2 := m_isBlocked h e1.1 e1.2
    have k3 := x_pOn h T.a8 ha
    have k4 := m_postOn h ha
    cases hb : blkB σ a
    · rw [hb, bI_f] at k1 k2
      by_cases e4 : pOn σ a = -1
      · by_cases e5 : σ 4 < 4
        · refine Or.inr ⟨?_, e1, rfl, e4, e5⟩
          rw [x_cell_p ha e1, k1, k3, e4]
          simp (disch := omega) only [brn_if, grd_if, ↓bnd_some, bnd_some, bnd_if, bnd_none, J_at, I_add, I_sub, I_mul, I_neg, lit_0, lit_1, lit_2, lit_3, lit_4, lit_5, lit_6, lit_7, lit_8, lit_9, lit_10, lit_11, lit_12, lit_13, lit_14, lit_20, lit_23, lit_24, lit_32, lit_33, lit_35, lit_40, lit_43, lit_45, lit_46, lit_47, lit_48, lit_49, lit_50, lit_57, lit_58, lit_59, lit_60, lit_61, lit_63, lit_64, lit_77, lit_95, lit_98, lit_99, lit_101, lit_104, lit_111, lit_112, lit_114, lit_116, lit_122, lit_127, lit_139, lit_147, lit_180, lit_255, lit_1000, lit_1029, I_lt, I_le, I_eq, I_cl, I_inb, if_pos, if_neg, eq_self, Bool.false_eq_true, ite_true, ite_false, Int.zero_add, Int.add_zero]
        · refine Or.inl ⟨3, 2, I 1, I 4, I 1, I 4, I 1, by decide, ?_, ?_, RQ_new (by omega) (by omega), Or.inl ⟨rfl, rfl⟩⟩
          · rw [x_cell_p ha e1, k1, k3, e4]
            simp (disch := omega) only [brn_if, grd_if, ↓bnd_some, bnd_some, bnd_if, bnd_none, J_at, I_add, I_sub, I_mul, I_neg, lit_0, lit_1, lit_2, lit_3, lit_4, lit_5, lit_6, lit_7, lit_8, lit_9, lit_10, lit_11, lit_12, lit_13, lit_14, lit_20, lit_23, lit_24, lit_32, lit_33, lit_35, lit_40, lit_43, lit_45, lit_46, lit_47, lit_48, lit_49, lit_50, lit_57, lit_58, lit_59, lit_60, lit_61, lit_63, lit_64, lit_77, lit_95, lit_98, lit_99, lit_101, lit_104, lit_111, lit_112, lit_114, lit_116, lit_122, lit_127, lit_139, lit_147, lit_180, lit_255, lit_1000, lit_1029, I_lt, I_le, I_eq, I_cl, I_inb, if_pos, if_neg, eq_self, Bool.false_eq_true, ite_true, ite_false, Int.zero_add, Int.add_zero]
          · rw [m_cell_p ha e1, k2, k4, e4]
            simp (disch := omega) only [brn_if, grd_if, ↓bnd_some, bnd_some, bnd_if, bnd_none, J_at, I_add, I_sub, I_mul, I_neg, lit_0, lit_1, lit_2, lit_3, lit_4, lit_5, lit_6, lit_7, lit_8, lit_9, lit_10, lit_11, lit_12, lit_13, lit_14, lit_20, lit_23, lit_24, lit_32, lit_33, lit_35, lit_40, lit_43, lit_45, lit_46, lit_47, lit_48, lit_49, lit_50, lit_57, lit_58, lit_59, lit_60, lit_61, lit_63, lit_64, lit_77, lit_95, lit_98, lit_99, lit_101, lit_104, lit_111, lit_112, lit_114, lit_116, lit_122, lit_127, lit_139, lit_147, lit_180, lit_255, lit_1000, lit_1029, I_lt, I_le, I_eq, I_cl, I_inb, if_pos, if_neg, eq_self, Bool.false_eq_true, ite_true, ite_false, Int.zero_add, Int.add_zero, tn_0]
      · refine Or.inl ⟨3, 2, I 7, I (pOn σ a), I 7, I (pOn σ a), I 1, by decide, ?_, ?_, RQ_new (by omega) (by omega), Or.inl ⟨rfl, rfl⟩⟩
        · rw [x_cell_p ha e1, k1, k3]
          simp (disch := omega) only [brn_if, grd_if, ↓bnd_some, bnd_some, bnd_if, bnd_none, J_at, I_add, I_sub, I_mul, I_neg, lit_0, lit_1, lit_2, lit_3, lit_4, lit_5, lit_6, lit_7, lit_8, lit_9, lit_10, lit_11, lit_12, lit_13, lit_14, lit_20, lit_23, lit_24, lit_32, lit_33, lit_35, lit_40, lit_43, lit_45, lit_46, lit_47, lit_48, lit_49, lit_50, lit_57, lit_58, lit_59, lit_60, lit_61, lit_63, lit_64, lit_77, lit_95, lit_98, lit_99, lit_101, lit_104, lit_111, lit_112, lit_114, lit_116, lit_122, lit_127, lit_139, lit_147, lit_180, lit_255, lit_1000, lit_1029, I_lt, I_le, I_eq, I_cl, I_inb, if_pos, if_neg, eq_self, Bool.false_eq_true, ite_true, ite_false, Int.zero_add, Int.add_zero]
        · rw [m_cell_p ha e1, k2, k4]
          simp (disch := omega) only [brn_if, grd_if, ↓bnd_some, bnd_some, bnd_if, bnd_none, J_at, I_add, I_sub, I_mul, I_neg, lit_0, lit_1, lit_2, lit_3, lit_4, lit_5, lit_6, lit_7, lit_8, lit_9, lit_10, lit_11, lit_12, lit_13, lit_14, lit_20, lit_23, lit_24, lit_32, lit_33, lit_35, lit_40, lit_43, lit_45, lit_46, lit_47, lit_48, lit_49, lit_50, lit_57, lit_58, lit_59, lit_60, lit_61, lit_63, lit_64, lit_77, lit_95, lit_98, lit_99, lit_101, lit_104, lit_111, lit_112, lit_114, lit_116, lit_122, lit_127, lit_139, lit_147, lit_180, lit_255, lit_1000, lit_1029, I_lt, I_le, I_eq, I_cl, I_inb, if_pos, if_neg, eq_self, Bool.false_eq_true, ite_true, ite_false, Int.zero_add, Int.add_zero, tn_0]
    · rw [hb, bI_t] at k1 k2
      refine Or.inl ⟨3, 2, I 2, I a, I 2, I a, I 1, by decide, ?_, ?_, RQ_new (by omega) (by omega), Or.inl ⟨rfl, rfl⟩⟩
      · rw [x_cell_p ha e1, k1]
        simp (disch := omega) only [brn_if, grd_if, ↓bnd_some, bnd_some, bnd_if, bnd_none, J_at, I_add, I_sub, I_mul, I_neg, lit_0, lit_1, lit_2, lit_3, lit_4, lit_5, lit_6, lit_7, lit_8, lit_9, lit_10, lit_11, lit_12, lit_13, lit_14, lit_20, lit_23, lit_24, lit_32, lit_33, lit_35, lit_40, lit_43, lit_45, lit_46, lit_47, lit_48, lit_49, lit_50, lit_57, lit_58, lit_59, lit_60, lit_61, lit_63, lit_64, lit_77, lit_95, lit_98, lit_99, lit_101, lit_104, lit_111, lit_112, lit_114, lit_116, lit_122, lit_127, lit_139, lit_147, lit_180, lit_255, lit_1000, lit_1029, I_lt, I_le, I_eq, I_cl, I_inb, if_pos, if_neg, eq_self, Bool.false_eq_true, ite_true, ite_false, Int.zero_add, Int.add_zero]
      · rw [grd_pos _ (by decide), m_cell_p ha e1, bnd_some, brn_neg _ _ (by decide), k2, bnd_some, brn_neg _ _ (by decide)]
        rfl
  · refine Or.inl ⟨2, 1, rn, rd, mr, md, mi, by decide, ?_, ?_, hq, Or.inr ⟨by decide, rfl⟩⟩
    · rw [x_cell_n ha e1]
      simp (disch := omega) only [brn_if, grd_if, ↓bnd_some, bnd_some, bnd_if, bnd_none, J_at, I_add, I_sub, I_mul, I_neg, lit_0, lit_1, lit_2, lit_3, lit_4, lit_5, lit_6, lit_7, lit_8, lit_9, lit_10, lit_11, lit_12, lit_13, lit_14, lit_20, lit_23, lit_24, lit_32, lit_33, lit_35, lit_40, lit_43, lit_45, lit_46, lit_47, lit_48, lit_49, lit_50, lit_57, lit_58, lit_59, lit_60, lit_61, lit_63, lit_64, lit_77, lit_95, lit_98, lit_99, lit_101, lit_104, lit_111, lit_112, lit_114, lit_116, lit_122, lit_127, lit_139, lit_147, lit_180, lit_255, lit_1000, lit_1029, I_lt, I_le, I_eq, I_cl, I_inb, if_pos, if_neg, eq_self, Bool.false_eq_true, ite_true, ite_false, Int.zero_add, Int.add_zero]
    · rw [grd_pos _ (by decide), m_cell_n ha e1, bnd_some, brn_pos _ _ (by decide)]
      rfl
theorem d_post_m (h : WF b σ) {a : Int} (e1 : 0 ≤ a ∧ a ≤ 63) (e4 : blkB σ a = false) (e5 : pOn σ a = -1) (e6 : σ 4 < 4) (mi : Int32) : F_X12_doPost (I a) 0 mr md mi (J σ) = some (I (σ 4), I 0, mr, md, mi, J (postS σ a)) := by
  have hn := h.q
  have k2 := m_isBlocked h e1.1 e1.2
  have k4 := m_postOn h (show InR a by omega)
  rw [e4, bI_f] at k2
  rw [e5] at k4
  unfold F_X12_doPost postS
  rw [m_cell_p (by omega) e1, k2, k4]
  simp (disch := omega) only [brn_if, grd_if, ↓bnd_some, bnd_some, bnd_if, bnd_none, J_at, I_add, I_sub, I_mul, I_neg, lit_0, lit_1, lit_2, lit_3, lit_4, lit_5, lit_6, lit_7, lit_8, lit_9, lit_10, lit_11, lit_12, lit_13, lit_14, lit_20, lit_23, lit_24, lit_32, lit_33, lit_35, lit_40, lit_43, lit_45, lit_46, lit_47, lit_48, lit_49, lit_50, lit_57, lit_58, lit_59, lit_60, lit_61, lit_63, lit_64, lit_77, lit_95, lit_98, lit_99, lit_101, lit_104, lit_111, lit_112, lit_114, lit_116, lit_122, lit_127, lit_139, lit_147, lit_180, lit_255, lit_1000, lit_1029, I_lt, I_le, I_eq, I_cl, I_inb, if_pos, if_neg, eq_self, Bool.false_eq_true, ite_true, ite_false, Int.zero_add, Int.add_zero, tn_0, J_upd, U_ne]
theorem d_post_x (h : WF b σ) {a : Int} (r8 r9 : Nat → Int32) (e6 : σ 4 < 4) : F_X5_add (I a) (I (σ 4)) r8 r9 = some (I (σ 4), I (σ 4 + 1), upd r8 (σ 4).toNat (I a), upd r9 (σ 4).toNat (I (-1))) := by
  have hn := h.q
  obtain ⟨n, e⟩ := Int.eq_ofNat_of_zero_le hn.1
  unfold F_X5_add
  rw [e]
  have p := fun (r : Nat → Int32) (z : Int32) => x_put (N := 4) (by decide) (a := r) (i := n) (by omega) z
  rw [p, bnd_some, p, bnd_some, lit_1, I_add, I_neg]
  rfl
theorem d_post_w (h : WF b σ) (T : TR σ v) {a : Int} (e1 : 0 ≤ a ∧ a ≤ 63) (e5 : pOn σ a = -1) (e6 : σ 4 < 4) :
    WF b (postS σ a) ∧ TR (postS σ a) (tvMk (v.1 0) (v.1 1) (v.1 2) (v.1 3) (v.1 4) (v.1 5) (v.1 6) (v.1 7) (I (σ 4 + 1)) (v.2 0) (v.2 1) (v.2 2) (v.2 3) (v.2 4) (v.2 5) (v.2 6) (v.2 7) (upd (v.2 8) (σ 4).toNat (I a)) (upd (v.2 9) (σ 4).toNat (I (-1))) (v.2 10) (v.2 11)) := by
  have hn := h.q
  have he : ∀ k : Nat, k < 147 → (k ≠ 4 ∧ ¬ (139 ≤ k ∧ k < 147)) → postS σ a k = σ k := by
    intro k h1 h2
    unfold postS
    simp (disch := omega) only [U_ne]
  have h2 : postS σ a 4 = σ 4 + 1 := by unfold postS; exact U_same _ _ _
  have hO : ∀ i : Nat, (i : Int) < σ 4 → postS σ a (139 + 2 * i) = σ (139 + 2 * i) ∧ postS σ a (140 + 2 * i) = σ (140 + 2 * i) := by
    intro i hi
    unfold postS
    simp (disch := omega) only [U_ne, and_self]
  have hN : ∀ i : Nat, (i : Int) = σ 4 → postS σ a (139 + 2 * i) = a ∧ postS σ a (140 + 2 * i) = -1 := by
    intro i hi
    unfold postS
    simp (disch := omega) only [U, if_pos, if_neg, and_self]
  have nw : ∀ i : Nat, (i : Int) < σ 4 → σ (139 + 2 * i) ≠ a := by
    intro i hi ha
    rcases lIx_sp (fun i => decide (σ (139 + 2 * i) = a)) (σ 4).toNat 0 (-1) with ⟨-, g2⟩ | ⟨j, g1, g2, g3, g4⟩
    · have := g2 i (by omega) (by omega)
      simp only [decide_eq_false_iff_not] at this
      exact this ha
    · have : pOn σ a = j := g4
      omega
  refine ⟨WF_post h ?_ he (by rw [h2]; omega) ?_ ?_, TR_post h T he (by rw [h2]) ?_ ?_⟩
  · exact U_r (U_r (U_r h.r (by omega)) (by omega)) (by omega)
  · intro i hi
    rw [h2] at hi
    by_cases e : (i : Int) = σ 4
    · obtain ⟨q1, q2⟩ := hN i e
      rw [q1, q2]
      exact ⟨e1, by omega, by omega⟩
    · obtain ⟨q1, q2⟩ := hO i (by omega)
      rw [q1, q2]
      exact h.post (by omega)
  · intro i j hi hj
    rw [h2] at hi hj
    by_cases e : (i : Int) = σ 4
    · by_cases e' : (j : Int) = σ 4
      · intro _; omega
      · rw [(hN i e).1, (hO j (by omega)).1]
        exact fun q => absurd q.symm (nw j (by omega))
    · by_cases e' : (j : Int) = σ 4
      · rw [(hO i (by omega)).1, (hN j e').1]
        exact fun q => absurd q (nw i (by omega))
      · rw [(hO i (by omega)).1, (hO j (by omega)).1]
        exact h.oneP (by omega) (by omega)
  · rw [h2]; exact AR_app T.a8 hn.1 (fun i hi => (hO i hi).1) (hN _ (by omega)).1
  · rw [h2]; exact AR_app T.a9 hn.1 (fun i hi => (hO i hi).2) (hN _ (by omega)).2
def passS (σ : Nat → Int) (a : Int) : Nat → Int := U (U σ 1 (σ 1 + (σ 0 + a) / 24)) 0 ((σ 0 + a) % 24)
theorem d_pass_m (h : WF b σ) (hb : b < 1000000) {a : Int} (e1 : 1 ≤ a ∧ a ≤ 99) : F_X12_doPass (I a) 0 (J σ) = some (I ((σ 0 + a) % 24), I 0, J (passS σ a)) := by
  have hh := h.hour
  have hs := h.sums.1
  have k1 : F_X12_in (I a) 1 99 = some (I 1) := by
    rw [lit_1, lit_99]
    exact I_min (by omega) (by omega) (by omega) e1
  have lit_24' : (24 : Int32) = I 24 := by decide
  have r1 : (I (σ 0) + I a) / 24 = I ((σ 0 + a) / 24) := by rw [lit_24', I_add, I_div (by omega) (by omega) (by omega) (by omega)]
  have r2 : (I (σ 0) + I a) - (I (σ 0) + I a) / 24 * 24 = I ((σ 0 + a) % 24) := by rw [lit_24', I_add, I_rem (by omega) (by omega) (by omega) (by omega)]
  have c0 : (0 : Int32).toNatClampNeg = 0 := by decide
  have c1 : (1 : Int32).toNatClampNeg = 1 := by decide
  unfold F_X12_doPass passS
  rw [k1, bnd_some, brn_neg _ _ (by decide)]
  rw [grd_pos _ (by decide), grd_pos _ (by decide), grd_pos _ (by decide), grd_pos _ (by decide), grd_pos _ (by decide), grd_pos _ (by decide), c0, c1, J_at, J_at, r1, I_add, J_upd, J_at, U_ne _ _ (by decide), r2, J_upd, J_at, U_same]
  rfl
theorem d_pass_x (h : WF b σ) (hb : b < 1000000) {a : Int} (e1 : 1 ≤ a ∧ a ≤ 99) : F_X9_letPass (I a) (I (σ 0)) (I (σ 1)) = some (I ((σ 0 + a) % 24), I ((σ 0 + a) % 24), I (σ 1 + (σ 0 + a) / 24)) := by
  have hh := h.hour
  have hs := h.sums.1
  have lit_24' : (24 : Int32) = I 24 := by decide
  have r1 : (I (σ 0) + I a) / 24 = I ((σ 0 + a) / 24) := by rw [lit_24', I_add, I_div (by omega) (by omega) (by omega) (by omega)]
  have r2 : (I (σ 0) + I a) - (I (σ 0) + I a) / 24 * 24 = I ((σ 0 + a) % 24) := by rw [lit_24', I_add, I_rem (by omega) (by omega) (by omega) (by omega)]
  unfold F_X9_letPass
  rw [r2, r1, I_add]
theorem d_pass_w (h : WF b σ) (hb0 : 0 ≤ b) (hb : b < 1000000) (T : TR σ v) {a : Int} (e1 : 1 ≤ a ∧ a ≤ 99) :
    WF (b + 5) (passS σ a) ∧ TR (passS σ a) (tvMk (I ((σ 0 + a) % 24)) (I (σ 1 + (σ 0 + a) / 24)) (v.1 2) (v.1 3) (v.1 4) (v.1 5) (v.1 6) (v.1 7) (v.1 8) (v.2 0) (v.2 1) (v.2 2) (v.2 3) (v.2 4) (v.2 5) (v.2 6) (v.2 7) (v.2 8) (v.2 9) (v.2 10) (v.2 11)) := by
  have hh := h.hour
  have hs := h.sums
  have he : ∀ k : Nat, k < 147 → (k ≠ 0 ∧ k ≠ 1) → passS σ a k = σ k := by
    intro k h1 h2
    unfold passS
    rw [U_ne _ _ (by omega), U_ne _ _ (by omega)]
  have h0 : passS σ a 0 = (σ 0 + a) % 24 := by unfold passS; exact U_same _ _ _
  have h1 : passS σ a 1 = σ 1 + (σ 0 + a) / 24 := by unfold passS; rw [U_ne _ _ (by decide)]; exact U_same _ _ _
  refine ⟨WF_pass (h.mono (by omega)) ?_ he (by rw [h0]; omega) ?_, TR_pass h T he (by rw [h0]) (by rw [h1])⟩
  · exact U_r (U_r h.r (by omega)) (by omega)
  · rw [h1, he 5 (by omega) (by omega), he 6 (by omega) (by omega), he 7 (by omega) (by omega), he 9 (by omega) (by omega), he 10 (by omega) (by omega), he 11 (by omega) (by omega), he 12 (by omega) (by omega)]
    refine ⟨⟨by omega, by omega⟩, ⟨hs.2.1.1, by omega⟩, ⟨hs.2.2.1.1, by omega⟩, ⟨hs.2.2.2.1.1, by omega⟩, fun k hk => ?_, hs.2.2.2.2.2⟩
    rw [he (9 + k) (by omega) (by omega)]
    have := hs.2.2.2.2.1 k hk
    omega
end M3
section OP3
variable {b : Int} {x : XVal} {y : MVal}
theorem op_block (hR : Rel b x y) (hb : 0 ≤ b) (p1 : Int32) : OPK [(0, 0), (2, 1), (3, 2)] b (G_block p1 x) (H_block p1 y) := by
  obtain ⟨σ, π, n, e, ⟨hw, hs, T⟩, hK, ⟨h28, h29, hm, hp, hP⟩, hQ, hO, hS⟩ := hR
  obtain ⟨a, ha, rfl⟩ := I_ex p1
  obtain ⟨β, -, hβ⟩ := J_ex (y.2 1)
  have h7 : x.1 7 = I (σ 2) := T.1.2.2.2.2.2.2.1
  have T2 : TR σ (tvMk (x.1 1) (x.1 2) (x.1 3) (x.1 4) (x.1 5) (x.1 6) (I (σ 2)) (x.1 8) (x.1 9) (x.2.1 0) (x.2.1 1) (x.2.1 2) (x.2.1 3) (x.2.1 4) (x.2.1 5) (x.2.1 6) (x.2.1 7) (x.2.1 8) (x.2.1 9) (x.2.1 10) (x.2.1 11)) := by rw [← h7]; exact T
  unfold G_block H_block F_X11_block F_X12_block
  rw [hs, hβ, hm, hp, m_keep, bnd_some, h7, h28, h29]
  have hj := j_block (v := xT x) hw T ha hQ (y.1 5)
  rcases hj with ⟨c, t, rn, rd, mr, md, mi, hc, e1, e2, hq, -⟩ | ⟨e1, g1, g5⟩
  · have hcc : (c = 2 ∧ t = 1) ∨ (c = 3 ∧ t = 2) := by simpa using hc
    obtain ⟨d1, d2⟩ := x_dFi (c := c) (by omega)
    rw [show F_X9_judgeBlock (I a) (I (σ 2)) (x.2.1 0) (x.1 30) (x.1 31) = _ from e1, e2]
    simp only [bnd_some]
    rw [d1, bnd_some, brn_neg _ _ d2, m_endsF (t := t) (by omega) (by omega), bnd_some, bnd_some, brn_neg _ _ (show ¬ (0 : Int32) = 1 by decide), CP_self]
    refine ⟨c.toNat, _, _, _, _, t, ?_, rfl, rfl, rfl, fun q => absurd q d2, ?_⟩
    · rcases hcc with ⟨rfl, rfl⟩ | ⟨rfl, rfl⟩ <;> decide
    · exact ⟨σ, π, n, e, ⟨hw.mono (by omega), rfl, T⟩, hK.mono (by omega), ⟨rfl, rfl, rfl, rfl, hP.mono (by omega)⟩, hq, hO, hS⟩
  · obtain ⟨w1, w2⟩ := d_block_w (v := xT x) hw T g1
    have qx := d_block_x (v := xT x) hw T g1
    rw [show F_X9_judgeBlock (I a) (I (σ 2)) (x.2.1 0) (x.1 30) (x.1 31) = _ from e1, d_block_m hw g1 g5]
    simp only [bnd_some]
    rw [x_dFi0, bnd_some, brn_pos _ _ rfl]
    obtain ⟨pool', q1, q2⟩ := x_push T2 hw hP
    rw [q1, bnd_some, show F_X9_turnBlock (I a) (x.2.1 10) = _ from qx, bnd_some, show I 0 = (0 : Int32) from rfl, m_ends hP.1, bnd_some]
    have w3 : TR (blockS σ a) (tvMk (x.1 1) (x.1 2) (x.1 3) (x.1 4) (x.1 5) (x.1 6) (x.1 7) (x.1 8) (x.1 9) (x.2.1 0) (x.2.1 1) (x.2.1 2) (x.2.1 3) (x.2.1 4) (x.2.1 5) (x.2.1 6) (x.2.1 7) (x.2.1 8) (x.2.1 9) (upd (x.2.1 10) a.toNat (I (if blkB σ a = true then 0 else 1))) (x.2.1 11)) := w2
    have hz : I (if blkB σ a = true then 0 else 1) = 0 ∨ I (if blkB σ a = true then 0 else 1) = 1 := by cases blkB σ a <;> decide
    rw [grd_pos _ hz]
    rcases hz with hz | hz
    · rw [brn_neg _ _ (show ¬ I (if blkB σ a = true then 0 else 1) = 1 by rw [hz]; decide)]
      exact ⟨0, _, _, _, _, 0, by decide, rfl, rfl, rfl, fun _ => hz, ⟨_, _, _, _, ⟨w1.mono (by omega), rfl, w3⟩, hK.mono (by omega), ⟨rfl, rfl, rfl, rfl, q2.mono (by omega)⟩, hQ, hO, hS⟩⟩
    · rw [brn_pos _ _ hz]
      exact ⟨0, _, _, _, _, 0, by decide, rfl, rfl, rfl, fun _ => hz, ⟨_, _, _, _, ⟨w1.mono (by omega), rfl, w3⟩, hK.mono (by omega), ⟨rfl, rfl, rfl, rfl, q2.mono (by omega)⟩, hQ, hO, hS⟩⟩
theorem op_post (hR : Rel b x y) (hb : 0 ≤ b) (p1 : Int32) : OPK [(0, 0), (2, 1), (3, 2)] b (G_post p1 x) (H_post p1 y) := by
  obtain ⟨σ, π, n, e, ⟨hw, hs, T⟩, hK, ⟨h28, h29, hm, hp, hP⟩, hQ, hO, hS⟩ := hR
  obtain ⟨a, ha, rfl⟩ := I_ex p1
  obtain ⟨β, -, hβ⟩ := J_ex (y.2 1)
  have h7 : x.1 9 = I (σ 4) := T.1.2.2.2.2.2.2.2.2
  have T2 : TR σ (tvMk (x.1 1) (x.1 2) (x.1 3) (x.1 4) (x.1 5) (x.1 6) (x.1 7) (x.1 8) (I (σ 4)) (x.2.1 0) (x.2.1 1) (x.2.1 2) (x.2.1 3) (x.2.1 4) (x.2.1 5) (x.2.1 6) (x.2.1 7) (x.2.1 8) (x.2.1 9) (x.2.1 10) (x.2.1 11)) := by rw [← h7]; exact T
  unfold G_post H_post F_X11_post F_X12_post
  rw [hs, hβ, hm, hp, m_keep, bnd_some, h7, h28, h29]
  have hj := j_post (v := xT x) hw T ha hQ (y.1 5)
  rcases hj with ⟨c, t, rn, rd, mr, md, mi, hc, e1, e2, hq, -⟩ | ⟨e1, g1, g4, g5, g6⟩
  · have hcc : (c = 2 ∧ t = 1) ∨ (c = 3 ∧ t = 2) := by simpa using hc
    obtain ⟨d1, d2⟩ := x_dFi (c := c) (by omega)
    rw [show F_X9_judgePost (I a) (I (σ 4)) (x.2.1 8) (x.2.1 10) (x.1 30) (x.1 31) = _ from e1, e2]
    simp only [bnd_some]
    rw [d1, bnd_some, brn_neg _ _ d2, m_endsF (t := t) (by omega) (by omega), bnd_some, CP_self]
    refine ⟨c.toNat, _, _, _, _, t, ?_, rfl, rfl, rfl, fun q => absurd q d2, ?_⟩
    · rcases hcc with ⟨rfl, rfl⟩ | ⟨rfl, rfl⟩ <;> decide
    · exact ⟨σ, π, n, e, ⟨hw.mono (by omega), rfl, T2⟩, hK.mono (by omega), ⟨rfl, rfl, rfl, rfl, hP.mono (by omega)⟩, hq, hO, hS⟩
  · obtain ⟨w1, w2⟩ := d_post_w (v := xT x) hw T g1 g5 g6
    rw [show F_X9_judgePost (I a) (I (σ 4)) (x.2.1 8) (x.2.1 10) (x.1 30) (x.1 31) = _ from e1, d_post_m hw g1 g4 g5 g6]
    simp only [bnd_some]
    rw [x_dFi0, bnd_some, brn_pos _ _ rfl]
    obtain ⟨pool', q1, q2⟩ := x_push T2 hw hP
    rw [q1, bnd_some, d_post_x hw _ _ g6, bnd_some, show I 0 = (0 : Int32) from rfl, m_ends hP.1, bnd_some]
    exact ⟨0, _, _, _, _, 0, by decide, rfl, rfl, rfl, fun _ => rfl, ⟨_, _, _, _, ⟨w1.mono (by omega), rfl, w2⟩, hK.mono (by omega), ⟨rfl, rfl, rfl, rfl, q2.mono (by omega)⟩, hQ, hO, hS⟩⟩
theorem op_pass (hR : Rel b x y) (hb : 0 ≤ b) (hb2 : b < 1000000) (p1 : Int32) : OPK [(0, 0), (2, 1)] b (G_pass p1 x) (H_pass p1 y) := by
  obtain ⟨σ, π, n, e, ⟨hw, hs, T⟩, hK, ⟨h28, h29, hm, hp, hP⟩, hQ, hO, hS⟩ := hR
  obtain ⟨a, ha, rfl⟩ := I_ex p1
  obtain ⟨β, -, hβ⟩ := J_ex (y.2 1)
  have h1 : x.1 1 = I (σ 0) := T.1.1
  have h2 : x.1 2 = I (σ 1) := T.1.2.1
  have T2 : TR σ (tvMk (I (σ 0)) (I (σ 1)) (x.1 3) (x.1 4) (x.1 5) (x.1 6) (x.1 7) (x.1 8) (x.1 9) (x.2.1 0) (x.2.1 1) (x.2.1 2) (x.2.1 3) (x.2.1 4) (x.2.1 5) (x.2.1 6) (x.2.1 7) (x.2.1 8) (x.2.1 9) (x.2.1 10) (x.2.1 11)) := by rw [← h1, ← h2]; exact T
  unfold G_pass H_pass F_X11_pass F_X12_pass F_X9_judgeHours
  rw [hs, hβ, hm, hp, m_keep, bnd_some, h1, h2, h28, h29]
  by_cases e1 : 1 ≤ a ∧ a ≤ 99
  · have k1 : F_X11_isWithin (I a) 1 99 = some (I 1) := by
      rw [lit_1, lit_99]
      exact I_in ha (by omega) (by omega) e1
    obtain ⟨w1, w2⟩ := d_pass_w (v := xT x) hw hb hb2 T e1
    obtain ⟨pool', q1, q2⟩ := x_push T2 hw hP
    rw [k1, bnd_some, brn_neg _ _ (by decide), bnd_some, show (0 : Int32) = I 0 from rfl, x_dFi0, bnd_some, brn_pos _ _ rfl, q1, bnd_some, d_pass_x hw hb2 e1, bnd_some, show I 0 = (0 : Int32) from rfl, d_pass_m hw hb2 e1]
    simp only [bnd_some]
    rw [show I 0 = (0 : Int32) from rfl, m_ends hP.1, bnd_some]
    exact ⟨0, _, _, _, _, 0, by decide, rfl, rfl, rfl, fun _ => rfl, ⟨_, _, _, _, ⟨w1.mono (by omega), rfl, w2⟩, hK.mono (by omega), ⟨rfl, rfl, rfl, rfl, q2.mono (by omega)⟩, hQ, hO, hS⟩⟩
  · have k1 : F_X11_isWithin (I a) 1 99 = some (I 0) := by
      rw [lit_1, lit_99]
      exact I_out ha (by omega) (by omega) e1
    have q3 : F_X12_doPass (I a) 0 (J σ) = some (0, I 1, J σ) := by
      have k2 : F_X12_in (I a) 1 99 = some (I 0) := by
        rw [lit_1, lit_99]
        exact I_mout ha (by omega) (by omega) e1
      unfold F_X12_doPass
      rw [k2, bnd_some, brn_pos _ _ (by decide)]
      rfl
    rw [k1, bnd_some, brn_pos _ _ (by decide), bnd_some, show (2 : Int32) = I 2 from rfl, x_dFi2, bnd_some, brn_neg _ _ (by decide), q3, bnd_some, bnd_some, m_endsF (t := 1) (by omega) (by omega), bnd_some, CP_self]
    exact ⟨2, _, _, _, _, 1, by decide, rfl, rfl, rfl, fun q => absurd q (by decide), ⟨σ, π, n, e, ⟨hw.mono (by omega), rfl, T2⟩, hK.mono (by omega), ⟨rfl, rfl, rfl, rfl, hP.mono (by omega)⟩, hQ, hO, hS⟩⟩
end OP3
