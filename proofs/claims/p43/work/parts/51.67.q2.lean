/-! ===== two ways of telling the same ===== -/
theorem sumI_add (f g : Nat → Int) : ∀ r k, sumI f r k + sumI g r k = sumI (fun i => f i + g i) r k := by
  intro r
  induction r with
  | zero => intro k; rfl
  | succ r ih =>
    intro k
    rw [sumI, sumI, sumI, ← ih]
    omega
theorem cnt_sum (p : Nat → Bool) : ∀ r k, cnt p r k = sumI (fun i => if p i = true then 1 else 0) r k := by
  intro r
  induction r with
  | zero => intro k; rfl
  | succ r ih =>
    intro k
    rw [cnt, sumI, ih]
section Q2
variable {b : Int} {σ : Nat → Int} {v : TVal}
theorem x_from (h : WF b σ) (T : TR σ v) {i : Nat} (hi : (i : Int) < σ 2) : F_X2_fromAt (I i) (v.2 1) = some (I (σ (78 + 5 * i))) := by
  unfold F_X2_fromAt
  rw [x_at10 T.a1 hi h.n.2, bnd_some]
theorem x_to (h : WF b σ) (T : TR σ v) {i : Nat} (hi : (i : Int) < σ 2) : F_X2_toAt (I i) (v.2 2) = some (I (σ (79 + 5 * i))) := by
  unfold F_X2_toAt
  rw [x_at10 T.a2 hi h.n.2, bnd_some]
/-- what a house adds to a turn; what it has added ahead of the turn k -/
def tG (σ : Nat → Int) (t : Int) (i : Nat) : Int := (if σ (78 + 5 * i) = t then 1 else 0) - (if σ (79 + 5 * i) = t then 1 else 0)
def tF (σ : Nat → Int) (k : Int) (i : Nat) : Int := (if σ (79 + 5 * i) < σ (78 + 5 * i) then 1 else 0) + (if σ (78 + 5 * i) < k then 1 else 0) - (if σ (79 + 5 * i) < k then 1 else 0)
theorem x_turn (h : WF b σ) (T : TR σ v) {t : Int} (h3 : 0 ≤ t) (h4 : t ≤ 23) : F_X2_turnAt (I t) (I (σ 2)) (v.2 1) (v.2 2) = some (I (sumI (tG σ t) (σ 2).toNat 0)) := by
  have hn := h.n
  have go : ∀ (r k f : Nat) (a : Int), (k : Int) + r = σ 2 → r < f → L_X2_turnAt_4 (I t) (I (σ 2)) (v.2 1) (v.2 2) f (I a) (I k) = some (I (a + sumI (tG σ t) r k)) := by
    intro r
    induction r with
    | zero =>
      intro k f a hk hf
      obtain ⟨f, rfl⟩ : ∃ g, f = g + 1 := ⟨f - 1, by omega⟩
      rw [L_X2_turnAt_4, sumI, Int.add_zero]
      simp (disch := omega) only [brn_if, grd_if, ↓bnd_some, bnd_some, bnd_if, bnd_none, J_at, I_add, I_sub, I_mul, I_neg, lit_0, lit_1, lit_2, lit_3, lit_4, lit_5, lit_6, lit_7, lit_8, lit_9, lit_10, lit_11, lit_12, lit_13, lit_14, lit_20, lit_23, lit_24, lit_32, lit_33, lit_35, lit_40, lit_43, lit_45, lit_46, lit_47, lit_48, lit_49, lit_50, lit_57, lit_58, lit_59, lit_60, lit_61, lit_63, lit_64, lit_77, lit_95, lit_98, lit_99, lit_101, lit_104, lit_111, lit_112, lit_114, lit_116, lit_122, lit_127, lit_139, lit_147, lit_180, lit_255, lit_1000, lit_1029, I_lt, I_le, I_eq, I_cl, I_inb, if_pos, if_neg, eq_self, Bool.false_eq_true, ite_true, ite_false, Int.zero_add, Int.add_zero]
    | succ r ih =>
      intro k f a hk hf
      obtain ⟨f, rfl⟩ : ∃ g, f = g + 1 := ⟨f - 1, by omega⟩
      have hh := h.house (i := k) (by omega)
      have e0 := fun z => ih (k + 1) f z (by omega) (by omega)
      have ek : ((k + 1 : Nat) : Int) = (k : Int) + 1 := by omega
      rw [ek] at e0
      rw [L_X2_turnAt_4, sumI, x_from h T (i := k) (by omega)]
      unfold J_X2_turnAt_24
      rw [x_to h T (i := k) (by omega), m1]
      unfold tG at e0 ⊢
      by_cases e1 : σ (78 + 5 * k) = t <;> by_cases e2 : σ (79 + 5 * k) = t
      all_goals simp (disch := omega) only [brn_if, grd_if, ↓bnd_some, bnd_some, bnd_if, bnd_none, J_at, I_add, I_sub, I_mul, I_neg, lit_0, lit_1, lit_2, lit_3, lit_4, lit_5, lit_6, lit_7, lit_8, lit_9, lit_10, lit_11, lit_12, lit_13, lit_14, lit_20, lit_23, lit_24, lit_32, lit_33, lit_35, lit_40, lit_43, lit_45, lit_46, lit_47, lit_48, lit_49, lit_50, lit_57, lit_58, lit_59, lit_60, lit_61, lit_63, lit_64, lit_77, lit_95, lit_98, lit_99, lit_101, lit_104, lit_111, lit_112, lit_114, lit_116, lit_122, lit_127, lit_139, lit_147, lit_180, lit_255, lit_1000, lit_1029, I_lt, I_le, I_eq, I_cl, I_inb, if_pos, if_neg, eq_self, Bool.false_eq_true, ite_true, ite_false, Int.zero_add, Int.add_zero, e0]
      all_goals congr 2
      all_goals omega
  have := go (σ 2).toNat 0 100 0 (by omega) (by omega)
  unfold F_X2_turnAt
  rw [lit_0]
  refine Eq.trans this ?_
  rw [Int.zero_add]
theorem sumI_in (f : Nat → Int) (m : Int) : ∀ r k, (∀ i, k ≤ i → i < k + r → -m ≤ f i ∧ f i ≤ m) → -m * r ≤ sumI f r k ∧ sumI f r k ≤ m * r := by
  intro r
  induction r with
  | zero => intro k h; simp [sumI]
  | succ r ih =>
    intro k h
    have h1 := ih (k + 1) (fun i a b => h i (by omega) (by omega))
    have h2 := h k (by omega) (by omega)
    have h3 : m * ((r + 1 : Nat) : Int) = m * r + m := by rw [Int.natCast_add, Int.mul_add]; simp
    have h4 : -m * ((r + 1 : Nat) : Int) = -m * r - m := by rw [Int.natCast_add, Int.mul_add]; simp; omega
    rw [sumI, h3, h4]
    omega
theorem x_turns (h : WF b σ) (T : TR σ v) {t : Int} (h3 : 0 ≤ t) (h4 : t ≤ 23) : F_X2_sleepersByTurns (I t) (I (σ 2)) (v.2 1) (v.2 2) = some (I (slC σ t)) := by
  have hn := h.n
  have go1 : ∀ (r k f : Nat) (a : Int), (k : Int) + r = σ 2 → r < f → L_X2_sleepersByTurns_4 (I t) (I (σ 2)) (v.2 1) (v.2 2) f (I a) (I k) = L_X2_sleepersByTurns_36 (I t) (I (σ 2)) (v.2 1) (v.2 2) 100 (I (a + sumI (tF σ 0) r k)) (I 0) := by
    intro r
    induction r with
    | zero =>
      intro k f a hk hf
      obtain ⟨f, rfl⟩ : ∃ g, f = g + 1 := ⟨f - 1, by omega⟩
      rw [L_X2_sleepersByTurns_4, sumI, Int.add_zero]
      simp (disch := omega) only [brn_if, grd_if, ↓bnd_some, bnd_some, bnd_if, bnd_none, J_at, I_add, I_sub, I_mul, I_neg, lit_0, lit_1, lit_2, lit_3, lit_4, lit_5, lit_6, lit_7, lit_8, lit_9, lit_10, lit_11, lit_12, lit_13, lit_14, lit_20, lit_23, lit_24, lit_32, lit_33, lit_35, lit_40, lit_43, lit_45, lit_46, lit_47, lit_48, lit_49, lit_50, lit_57, lit_58, lit_59, lit_60, lit_61, lit_63, lit_64, lit_77, lit_95, lit_98, lit_99, lit_101, lit_104, lit_111, lit_112, lit_114, lit_116, lit_122, lit_127, lit_139, lit_147, lit_180, lit_255, lit_1000, lit_1029, I_lt, I_le, I_eq, I_cl, I_inb, if_pos, if_neg, eq_self, Bool.false_eq_true, ite_true, ite_false, Int.zero_add, Int.add_zero]
    | succ r ih =>
      intro k f a hk hf
      obtain ⟨f, rfl⟩ : ∃ g, f = g + 1 := ⟨f - 1, by omega⟩
      have hh := h.house (i := k) (by omega)
      have e0 := fun z => ih (k + 1) f z (by omega) (by omega)
      have ek : ((k + 1 : Nat) : Int) = (k : Int) + 1 := by omega
      rw [ek] at e0
      rw [L_X2_sleepersByTurns_4, sumI, x_from h T (i := k) (by omega), x_to h T (i := k) (by omega)]
      have e2 : tF σ 0 k = if σ (79 + 5 * k) < σ (78 + 5 * k) then 1 else 0 := by
        unfold tF
        rw [if_neg (show ¬ σ (78 + 5 * k) < 0 by omega), if_neg (show ¬ σ (79 + 5 * k) < 0 by omega)]
        omega
      rw [e2]
      by_cases e1 : σ (79 + 5 * k) < σ (78 + 5 * k)
      · simp (disch := omega) only [brn_if, grd_if, ↓bnd_some, bnd_some, bnd_if, bnd_none, J_at, I_add, I_sub, I_mul, I_neg, lit_0, lit_1, lit_2, lit_3, lit_4, lit_5, lit_6, lit_7, lit_8, lit_9, lit_10, lit_11, lit_12, lit_13, lit_14, lit_20, lit_23, lit_24, lit_32, lit_33, lit_35, lit_40, lit_43, lit_45, lit_46, lit_47, lit_48, lit_49, lit_50, lit_57, lit_58, lit_59, lit_60, lit_61, lit_63, lit_64, lit_77, lit_95, lit_98, lit_99, lit_101, lit_104, lit_111, lit_112, lit_114, lit_116, lit_122, lit_127, lit_139, lit_147, lit_180, lit_255, lit_1000, lit_1029, I_lt, I_le, I_eq, I_cl, I_inb, if_pos, if_neg, eq_self, Bool.false_eq_true, ite_true, ite_false, Int.zero_add, Int.add_zero, e0]
        rw [Int.add_assoc]
      · simp (disch := omega) only [brn_if, grd_if, ↓bnd_some, bnd_some, bnd_if, bnd_none, J_at, I_add, I_sub, I_mul, I_neg, lit_0, lit_1, lit_2, lit_3, lit_4, lit_5, lit_6, lit_7, lit_8, lit_9, lit_10, lit_11, lit_12, lit_13, lit_14, lit_20, lit_23, lit_24, lit_32, lit_33, lit_35, lit_40, lit_43, lit_45, lit_46, lit_47, lit_48, lit_49, lit_50, lit_57, lit_58, lit_59, lit_60, lit_61, lit_63, lit_64, lit_77, lit_95, lit_98, lit_99, lit_101, lit_104, lit_111, lit_112, lit_114, lit_116, lit_122, lit_127, lit_139, lit_147, lit_180, lit_255, lit_1000, lit_1029, I_lt, I_le, I_eq, I_cl, I_inb, if_pos, if_neg, eq_self, Bool.false_eq_true, ite_true, ite_false, Int.zero_add, Int.add_zero, e0]
  have go2 : ∀ (r k f : Nat) (a : Int), (k : Int) + r = t + 1 → r < f → a = sumI (tF σ k) (σ 2).toNat 0 → L_X2_sleepersByTurns_36 (I t) (I (σ 2)) (v.2 1) (v.2 2) f (I a) (I k) = some (I (sumI (tF σ (t + 1)) (σ 2).toNat 0)) := by
    intro r
    induction r with
    | zero =>
      intro k f a hk hf ha
      obtain ⟨f, rfl⟩ : ∃ g, f = g + 1 := ⟨f - 1, by omega⟩
      have ek : (k : Int) = t + 1 := by omega
      rw [L_X2_sleepersByTurns_36, ha, ek]
      simp (disch := omega) only [brn_if, grd_if, ↓bnd_some, bnd_some, bnd_if, bnd_none, J_at, I_add, I_sub, I_mul, I_neg, lit_0, lit_1, lit_2, lit_3, lit_4, lit_5, lit_6, lit_7, lit_8, lit_9, lit_10, lit_11, lit_12, lit_13, lit_14, lit_20, lit_23, lit_24, lit_32, lit_33, lit_35, lit_40, lit_43, lit_45, lit_46, lit_47, lit_48, lit_49, lit_50, lit_57, lit_58, lit_59, lit_60, lit_61, lit_63, lit_64, lit_77, lit_95, lit_98, lit_99, lit_101, lit_104, lit_111, lit_112, lit_114, lit_116, lit_122, lit_127, lit_139, lit_147, lit_180, lit_255, lit_1000, lit_1029, I_lt, I_le, I_eq, I_cl, I_inb, if_pos, if_neg, eq_self, Bool.false_eq_true, ite_true, ite_false, Int.zero_add, Int.add_zero]
    | succ r ih =>
      intro k f a hk hf ha
      obtain ⟨f, rfl⟩ : ∃ g, f = g + 1 := ⟨f - 1, by omega⟩
      have e1 : a + sumI (tG σ k) (σ 2).toNat 0 = sumI (tF σ ((k + 1 : Nat) : Int)) (σ 2).toNat 0 := by
        rw [ha, sumI_add]
        refine sumI_cong (fun i _ _ => ?_)
        unfold tF tG
        have ek : ((k + 1 : Nat) : Int) = (k : Int) + 1 := by omega
        rw [ek]
        split <;> split <;> split <;> split <;> split <;> (repeat' split) <;> omega
      rw [L_X2_sleepersByTurns_36, x_turn h T (t := k) (by omega) (by omega)]
      simp (disch := omega) only [brn_if, grd_if, ↓bnd_some, bnd_some, bnd_if, bnd_none, J_at, I_add, I_sub, I_mul, I_neg, lit_0, lit_1, lit_2, lit_3, lit_4, lit_5, lit_6, lit_7, lit_8, lit_9, lit_10, lit_11, lit_12, lit_13, lit_14, lit_20, lit_23, lit_24, lit_32, lit_33, lit_35, lit_40, lit_43, lit_45, lit_46, lit_47, lit_48, lit_49, lit_50, lit_57, lit_58, lit_59, lit_60, lit_61, lit_63, lit_64, lit_77, lit_95, lit_98, lit_99, lit_101, lit_104, lit_111, lit_112, lit_114, lit_116, lit_122, lit_127, lit_139, lit_147, lit_180, lit_255, lit_1000, lit_1029, I_lt, I_le, I_eq, I_cl, I_inb, if_pos, if_neg, eq_self, Bool.false_eq_true, ite_true, ite_false, Int.zero_add, Int.add_zero]
      exact ih (k + 1) f _ (by omega) (by omega) e1
  have g1 := go1 (σ 2).toNat 0 100 0 (by omega) (by omega)
  have g2 := go2 (t + 1).toNat 0 100 _ (by omega) (by omega) rfl
  unfold F_X2_sleepersByTurns slC
  rw [lit_0]
  refine g1.trans ?_
  rw [Int.zero_add]
  refine g2.trans ?_
  congr 2
  rw [cnt_sum]
  refine sumI_cong (fun i h5 h6 => ?_)
  have hh := h.house (i := i) (by omega)
  cases hb : slB σ i t
  · have e := of_decide_eq_false hb
    unfold slN md at e
    show tF σ (t + 1) i = 0
    unfold tF
    split <;> split <;> split <;> omega
  · have e := of_decide_eq_true hb
    unfold slN md at e
    show tF σ (t + 1) i = 1
    unfold tF
    split <;> split <;> split <;> omega
theorem q_asleep (h : WF b σ) (T : TR σ v) (a f : Int32) (t : Int32) : QOK [(0, 0), (2, 1)] (F_X11_asleep a f (v.1 6) (v.2 1) (v.2 2)) (F_X12_asleep a f (J σ) t) := by
  obtain ⟨a, ha, rfl⟩ := I_ex a
  obtain ⟨f, hf, rfl⟩ := I_ex f
  rw [T.1.2.2.2.2.2.2.1]
  unfold F_X11_asleep F_X12_asleep J_X12_asleep_13
  by_cases e1 : 0 ≤ a ∧ a ≤ 23
  · refine QOK_ok (slC σ a) (by decide) ?_ ?_
    · rw [x_hour_p ha e1, x_sleepers h T.a1 T.a2 e1.1 e1.2, x_turns h T e1.1 e1.2]
      by_cases e : f = 0
      · simp (disch := omega) only [brn_if, grd_if, ↓bnd_some, bnd_some, bnd_if, bnd_none, J_at, I_add, I_sub, I_mul, I_neg, lit_0, lit_1, lit_2, lit_3, lit_4, lit_5, lit_6, lit_7, lit_8, lit_9, lit_10, lit_11, lit_12, lit_13, lit_14, lit_20, lit_23, lit_24, lit_32, lit_33, lit_35, lit_40, lit_43, lit_45, lit_46, lit_47, lit_48, lit_49, lit_50, lit_57, lit_58, lit_59, lit_60, lit_61, lit_63, lit_64, lit_77, lit_95, lit_98, lit_99, lit_101, lit_104, lit_111, lit_112, lit_114, lit_116, lit_122, lit_127, lit_139, lit_147, lit_180, lit_255, lit_1000, lit_1029, I_lt, I_le, I_eq, I_cl, I_inb, if_pos, if_neg, eq_self, Bool.false_eq_true, ite_true, ite_false, Int.zero_add, Int.add_zero, x_dPt]
      · simp (disch := omega) only [brn_if, grd_if, ↓bnd_some, bnd_some, bnd_if, bnd_none, J_at, I_add, I_sub, I_mul, I_neg, lit_0, lit_1, lit_2, lit_3, lit_4, lit_5, lit_6, lit_7, lit_8, lit_9, lit_10, lit_11, lit_12, lit_13, lit_14, lit_20, lit_23, lit_24, lit_32, lit_33, lit_35, lit_40, lit_43, lit_45, lit_46, lit_47, lit_48, lit_49, lit_50, lit_57, lit_58, lit_59, lit_60, lit_61, lit_63, lit_64, lit_77, lit_95, lit_98, lit_99, lit_101, lit_104, lit_111, lit_112, lit_114, lit_116, lit_122, lit_127, lit_139, lit_147, lit_180, lit_255, lit_1000, lit_1029, I_lt, I_le, I_eq, I_cl, I_inb, if_pos, if_neg, eq_self, Bool.false_eq_true, ite_true, ite_false, Int.zero_add, Int.add_zero, x_dPt]
    · rw [m_hour_p ha e1, m_sleepers h e1.1 e1.2]
      simp (disch := omega) only [brn_if, grd_if, ↓bnd_some, bnd_some, bnd_if, bnd_none, J_at, I_add, I_sub, I_mul, I_neg, lit_0, lit_1, lit_2, lit_3, lit_4, lit_5, lit_6, lit_7, lit_8, lit_9, lit_10, lit_11, lit_12, lit_13, lit_14, lit_20, lit_23, lit_24, lit_32, lit_33, lit_35, lit_40, lit_43, lit_45, lit_46, lit_47, lit_48, lit_49, lit_50, lit_57, lit_58, lit_59, lit_60, lit_61, lit_63, lit_64, lit_77, lit_95, lit_98, lit_99, lit_101, lit_104, lit_111, lit_112, lit_114, lit_116, lit_122, lit_127, lit_139, lit_147, lit_180, lit_255, lit_1000, lit_1029, I_lt, I_le, I_eq, I_cl, I_inb, if_pos, if_neg, eq_self, Bool.false_eq_true, ite_true, ite_false, Int.zero_add, Int.add_zero]
  · refine QOK_th 2 1 (by decide) (by decide) (v := I 0) (v2 := I 0) ?_ ?_
    · rw [x_hour_n ha e1]
      simp (disch := omega) only [brn_if, grd_if, ↓bnd_some, bnd_some, bnd_if, bnd_none, J_at, I_add, I_sub, I_mul, I_neg, lit_0, lit_1, lit_2, lit_3, lit_4, lit_5, lit_6, lit_7, lit_8, lit_9, lit_10, lit_11, lit_12, lit_13, lit_14, lit_20, lit_23, lit_24, lit_32, lit_33, lit_35, lit_40, lit_43, lit_45, lit_46, lit_47, lit_48, lit_49, lit_50, lit_57, lit_58, lit_59, lit_60, lit_61, lit_63, lit_64, lit_77, lit_95, lit_98, lit_99, lit_101, lit_104, lit_111, lit_112, lit_114, lit_116, lit_122, lit_127, lit_139, lit_147, lit_180, lit_255, lit_1000, lit_1029, I_lt, I_le, I_eq, I_cl, I_inb, if_pos, if_neg, eq_self, Bool.false_eq_true, ite_true, ite_false, Int.zero_add, Int.add_zero, x_dPf]
    · rw [m_hour_n ha e1]
      simp (disch := omega) only [brn_if, grd_if, ↓bnd_some, bnd_some, bnd_if, bnd_none, J_at, I_add, I_sub, I_mul, I_neg, lit_0, lit_1, lit_2, lit_3, lit_4, lit_5, lit_6, lit_7, lit_8, lit_9, lit_10, lit_11, lit_12, lit_13, lit_14, lit_20, lit_23, lit_24, lit_32, lit_33, lit_35, lit_40, lit_43, lit_45, lit_46, lit_47, lit_48, lit_49, lit_50, lit_57, lit_58, lit_59, lit_60, lit_61, lit_63, lit_64, lit_77, lit_95, lit_98, lit_99, lit_101, lit_104, lit_111, lit_112, lit_114, lit_116, lit_122, lit_127, lit_139, lit_147, lit_180, lit_255, lit_1000, lit_1029, I_lt, I_le, I_eq, I_cl, I_inb, if_pos, if_neg, eq_self, Bool.false_eq_true, ite_true, ite_false, Int.zero_add, Int.add_zero]
/-- the first hour of the most sleepers of d and the r hours from k on -/
def dpL (σ : Nat → Int) : Nat → Nat → Int → Int
  | 0, _, d => d
  | r + 1, k, d => dpL σ r (k + 1) (if slC σ k ≤ slC σ d then d else k)
theorem dpL_in (σ : Nat → Int) : ∀ (r k : Nat) (d : Int), k + r = 24 → 0 ≤ d → d ≤ 23 → 0 ≤ dpL σ r k d ∧ dpL σ r k d ≤ 23 := by
  intro r
  induction r with
  | zero => intro k d h h1 h2; exact ⟨h1, h2⟩
  | succ r ih =>
    intro k d h h1 h2
    rw [dpL]
    exact ih _ _ (by omega) (by split <;> omega) (by split <;> omega)
theorem x_deepL (h : WF b σ) (T : TR σ v) : ∀ (r k f : Nat) (d : Int), k + r = 24 → r < f → 0 ≤ d → d ≤ 23 → L_X2_deepestHour_6 (I (σ 2)) (v.2 1) (v.2 2) f (I (slC σ d)) (I (if slC σ d = 0 then -1 else d)) (I k) = some (I (if slC σ (dpL σ r k d) = 0 then -1 else dpL σ r k d)) := by
  have hn := h.n
  intro r
  induction r with
  | zero =>
    intro k f d hk hf h1 h2
    obtain ⟨f, rfl⟩ : ∃ g, f = g + 1 := ⟨f - 1, by omega⟩
    obtain rfl : k = 24 := by omega
    rw [L_X2_deepestHour_6, dpL]
    simp (disch := omega) only [brn_if, grd_if, ↓bnd_some, bnd_some, bnd_if, bnd_none, J_at, I_add, I_sub, I_mul, I_neg, lit_0, lit_1, lit_2, lit_3, lit_4, lit_5, lit_6, lit_7, lit_8, lit_9, lit_10, lit_11, lit_12, lit_13, lit_14, lit_20, lit_23, lit_24, lit_32, lit_33, lit_35, lit_40, lit_43, lit_45, lit_46, lit_47, lit_48, lit_49, lit_50, lit_57, lit_58, lit_59, lit_60, lit_61, lit_63, lit_64, lit_77, lit_95, lit_98, lit_99, lit_101, lit_104, lit_111, lit_112, lit_114, lit_116, lit_122, lit_127, lit_139, lit_147, lit_180, lit_255, lit_1000, lit_1029, I_lt, I_le, I_eq, I_cl, I_inb, if_pos, if_neg, eq_self, Bool.false_eq_true, ite_true, ite_false, Int.zero_add, Int.add_zero]
  | succ r ih =>
    intro k f d hk hf h1 h2
    obtain ⟨f, rfl⟩ : ∃ g, f = g + 1 := ⟨f - 1, by omega⟩
    have s1 := slC_in h d
    have s2 := slC_in h (k : Int)
    rw [L_X2_deepestHour_6, dpL, x_sleepers h T.a1 T.a2 (t := (k : Int)) (by omega) (by omega)]
    by_cases e : slC σ k ≤ slC σ d
    · rw [if_pos e]
      have e0 := ih (k + 1) f d (by omega) (by omega) h1 h2
      rw [bnd_some, brn_neg _ _ (by rw [show (24 : Int32) = I 24 from rfl, I_le (by omega) (by omega) (by omega) (by omega)]; omega), brn_pos _ _ (by rw [I_le (by omega) (by omega) (by omega) (by omega)]; exact e), lit_1, I_add]
      exact e0
    · rw [if_neg e]
      have e0 := ih (k + 1) f k (by omega) (by omega) (by omega) (by omega)
      rw [if_neg (show ¬ slC σ (k : Int) = 0 by omega)] at e0
      rw [bnd_some, brn_neg _ _ (by rw [show (24 : Int32) = I 24 from rfl, I_le (by omega) (by omega) (by omega) (by omega)]; omega), brn_neg _ _ (by rw [I_le (by omega) (by omega) (by omega) (by omega)]; exact e), lit_1, I_add]
      exact e0
theorem m_deepL (h : WF b σ) (t : Int32) : ∀ (r k f : Nat) (d : Int), k + r = 24 → r < f → 0 ≤ d → d ≤ 23 → L_X12_deepest_4 (J σ) f (I d) (I k) t = if slC σ (dpL σ r k d) = 0 then some (I 0, I 1) else some (I (dpL σ r k d), I 0) := by
  have hn := h.n
  intro r
  induction r with
  | zero =>
    intro k f d hk hf h1 h2
    obtain ⟨f, rfl⟩ : ∃ g, f = g + 1 := ⟨f - 1, by omega⟩
    obtain rfl : k = 24 := by omega
    have s1 := slC_in h d
    rw [L_X12_deepest_4, dpL, m_sleepers h h1 h2]
    unfold J_X12_deepest_49
    by_cases e : slC σ d = 0
    · rw [if_pos e]
      simp (disch := omega) only [brn_if, grd_if, ↓bnd_some, bnd_some, bnd_if, bnd_none, J_at, I_add, I_sub, I_mul, I_neg, lit_0, lit_1, lit_2, lit_3, lit_4, lit_5, lit_6, lit_7, lit_8, lit_9, lit_10, lit_11, lit_12, lit_13, lit_14, lit_20, lit_23, lit_24, lit_32, lit_33, lit_35, lit_40, lit_43, lit_45, lit_46, lit_47, lit_48, lit_49, lit_50, lit_57, lit_58, lit_59, lit_60, lit_61, lit_63, lit_64, lit_77, lit_95, lit_98, lit_99, lit_101, lit_104, lit_111, lit_112, lit_114, lit_116, lit_122, lit_127, lit_139, lit_147, lit_180, lit_255, lit_1000, lit_1029, I_lt, I_le, I_eq, I_cl, I_inb, if_pos, if_neg, eq_self, Bool.false_eq_true, ite_true, ite_false, Int.zero_add, Int.add_zero]
    · rw [if_neg e]
      simp (disch := omega) only [brn_if, grd_if, ↓bnd_some, bnd_some, bnd_if, bnd_none, J_at, I_add, I_sub, I_mul, I_neg, lit_0, lit_1, lit_2, lit_3, lit_4, lit_5, lit_6, lit_7, lit_8, lit_9, lit_10, lit_11, lit_12, lit_13, lit_14, lit_20, lit_23, lit_24, lit_32, lit_33, lit_35, lit_40, lit_43, lit_45, lit_46, lit_47, lit_48, lit_49, lit_50, lit_57, lit_58, lit_59, lit_60, lit_61, lit_63, lit_64, lit_77, lit_95, lit_98, lit_99, lit_101, lit_104, lit_111, lit_112, lit_114, lit_116, lit_122, lit_127, lit_139, lit_147, lit_180, lit_255, lit_1000, lit_1029, I_lt, I_le, I_eq, I_cl, I_inb, if_pos, if_neg, eq_self, Bool.false_eq_true, ite_true, ite_false, Int.zero_add, Int.add_zero]
  | succ r ih =>
    intro k f d hk hf h1 h2
    obtain ⟨f, rfl⟩ : ∃ g, f = g + 1 := ⟨f - 1, by omega⟩
    have s1 := slC_in h d
    have s2 := slC_in h (k : Int)
    rw [L_X12_deepest_4, dpL, m_sleepers h (t := (k : Int)) (by omega) (by omega), m_sleepers h h1 h2]
    unfold J_X12_deepest_28
    by_cases e : slC σ k ≤ slC σ d
    · rw [if_pos e]
      have e0 := ih (k + 1) f d (by omega) (by omega) h1 h2
      rw [brn_neg _ _ (by rw [show (24 : Int32) = I 24 from rfl, I_le (by omega) (by omega) (by omega) (by omega)]; omega), bnd_some, bnd_some, brn_pos _ _ (by rw [I_le (by omega) (by omega) (by omega) (by omega)]; exact e), lit_1, I_add]
      exact e0
    · rw [if_neg e]
      have e0 := ih (k + 1) f k (by omega) (by omega) (by omega) (by omega)
      rw [brn_neg _ _ (by rw [show (24 : Int32) = I 24 from rfl, I_le (by omega) (by omega) (by omega) (by omega)]; omega), bnd_some, bnd_some, brn_neg _ _ (by rw [I_le (by omega) (by omega) (by omega) (by omega)]; exact e), lit_1, I_add]
      exact e0
theorem q_deepest (h : WF b σ) (T : TR σ v) (t : Int32) : QOK [(0, 0), (4, 1)] (F_X11_deepest (v.1 6) (v.2 1) (v.2 2)) (F_X12_deepest (J σ) t) := by
  have hn := h.n
  rw [T.1.2.2.2.2.2.2.1]
  obtain ⟨D, hD⟩ : ∃ D, D = dpL σ 23 1 0 := ⟨_, rfl⟩
  have d1 := dpL_in σ 23 1 0 (by omega) (by omega) (by omega)
  have g1 := m_deepL h t 23 1 100 0 (by omega) (by omega) (by omega) (by omega)
  have g2 := x_deepL h T 23 1 99 0 (by omega) (by omega) (by omega) (by omega)
  rw [← hD] at d1 g1 g2
  have s1 := slC_in h 0
  have g0 : F_X2_deepestHour (I (σ 2)) (v.2 1) (v.2 2) = some (I (if slC σ D = 0 then -1 else D)) := by
    unfold F_X2_deepestHour
    rw [lit_0, m1, show (100 : Nat) = 99 + 1 from rfl, L_X2_deepestHour_6, x_sleepers h T.a1 T.a2 (t := 0) (by omega) (by omega), bnd_some, brn_neg _ _ (by rw [show (24 : Int32) = I 24 from rfl, I_le (by omega) (by omega) (by omega) (by omega)]; omega), lit_1, I_add]
    by_cases e : slC σ 0 = 0
    · rw [if_pos e, e] at g2
      rw [brn_pos _ _ (by rw [I_le (by omega) (by omega) (by omega) (by omega)]; omega)]
      exact g2
    · rw [if_neg e] at g2
      rw [brn_neg _ _ (by rw [I_le (by omega) (by omega) (by omega) (by omega)]; omega)]
      exact g2
  unfold F_X11_deepest J_X11_deepest_21 F_X12_deepest
  rw [g0]
  by_cases e : slC σ D = 0
  · rw [if_pos e] at g1
    refine QOK_th 4 1 (by decide) (by decide) (v := I 0) (v2 := I 0) ?_ g1
    rw [if_pos e]
    simp (disch := omega) only [brn_if, grd_if, ↓bnd_some, bnd_some, bnd_if, bnd_none, J_at, I_add, I_sub, I_mul, I_neg, lit_0, lit_1, lit_2, lit_3, lit_4, lit_5, lit_6, lit_7, lit_8, lit_9, lit_10, lit_11, lit_12, lit_13, lit_14, lit_20, lit_23, lit_24, lit_32, lit_33, lit_35, lit_40, lit_43, lit_45, lit_46, lit_47, lit_48, lit_49, lit_50, lit_57, lit_58, lit_59, lit_60, lit_61, lit_63, lit_64, lit_77, lit_95, lit_98, lit_99, lit_101, lit_104, lit_111, lit_112, lit_114, lit_116, lit_122, lit_127, lit_139, lit_147, lit_180, lit_255, lit_1000, lit_1029, I_lt, I_le, I_eq, I_cl, I_inb, if_pos, if_neg, eq_self, Bool.false_eq_true, ite_true, ite_false, Int.zero_add, Int.add_zero, m1, x_dFf]
  · rw [if_neg e] at g1
    refine QOK_ok D (by decide) ?_ g1
    rw [if_neg e]
    simp (disch := omega) only [brn_if, grd_if, ↓bnd_some, bnd_some, bnd_if, bnd_none, J_at, I_add, I_sub, I_mul, I_neg, lit_0, lit_1, lit_2, lit_3, lit_4, lit_5, lit_6, lit_7, lit_8, lit_9, lit_10, lit_11, lit_12, lit_13, lit_14, lit_20, lit_23, lit_24, lit_32, lit_33, lit_35, lit_40, lit_43, lit_45, lit_46, lit_47, lit_48, lit_49, lit_50, lit_57, lit_58, lit_59, lit_60, lit_61, lit_63, lit_64, lit_77, lit_95, lit_98, lit_99, lit_101, lit_104, lit_111, lit_112, lit_114, lit_116, lit_122, lit_127, lit_139, lit_147, lit_180, lit_255, lit_1000, lit_1029, I_lt, I_le, I_eq, I_cl, I_inb, if_pos, if_neg, eq_self, Bool.false_eq_true, ite_true, ite_false, Int.zero_add, Int.add_zero, m1, x_dFt]
/-- the cell of the n-th fit from the cell k on; -1 without one -/
def fitI (σ : Nat → Int) : Nat → Nat → Int → Int
  | 0, _, _ => -1
  | r + 1, k, n => if canB σ k = true then (if n = 0 then (k : Int) else fitI σ r (k + 1) (n - 1)) else fitI σ r (k + 1) n
theorem fitI_in (σ : Nat → Int) : ∀ (r k : Nat) (n : Int), k + r = 64 → -1 ≤ fitI σ r k n ∧ fitI σ r k n ≤ 63 := by
  intro r
  induction r with
  | zero => intro k n h; rw [fitI]; omega
  | succ r ih =>
    intro k n h
    rw [fitI]
    split
    · split
      · omega
      · exact ih _ _ (by omega)
    · exact ih _ _ (by omega)
theorem fitI_neg (σ : Nat → Int) : ∀ (r k : Nat) (n : Int), n < 0 → fitI σ r k n = -1 := by
  intro r
  induction r with
  | zero => intro k n h; rfl
  | succ r ih =>
    intro k n h
    rw [fitI, if_neg (show ¬ n = 0 by omega), ih _ _ (by omega), ih _ _ h]
    split <;> rfl
theorem q_fix (h : WF b σ) (T : TR σ v) (a : Int32) (t : Int32) : QOK [(0, 0), (4, 1)] (F_X11_fix a (v.1 2) (v.1 8) (v.2 8) (v.2 9) (v.2 10)) (F_X12_fix a (J σ) t) := by
  obtain ⟨a, ha, rfl⟩ := I_ex a
  have hl := h.look
  rw [T.1.2.2.1, T.1.2.2.2.2.2.2.2.2]
  have gx : ∀ (r k f : Nat) (m : Int), k + r = 64 → r < f → 0 ≤ m → m ≤ k → L_X9_fitAt_4 (I a) (I (σ 4)) (v.2 8) (v.2 9) (v.2 10) f (I m) (I k) = some (I (fitI σ r k (a - m))) := by
    intro r
    induction r with
    | zero =>
      intro k f m hk hf h1 h2
      obtain ⟨f, rfl⟩ : ∃ g, f = g + 1 := ⟨f - 1, by omega⟩
      rw [L_X9_fitAt_4, fitI, m1]
      simp (disch := omega) only [brn_if, grd_if, ↓bnd_some, bnd_some, bnd_if, bnd_none, J_at, I_add, I_sub, I_mul, I_neg, lit_0, lit_1, lit_2, lit_3, lit_4, lit_5, lit_6, lit_7, lit_8, lit_9, lit_10, lit_11, lit_12, lit_13, lit_14, lit_20, lit_23, lit_24, lit_32, lit_33, lit_35, lit_40, lit_43, lit_45, lit_46, lit_47, lit_48, lit_49, lit_50, lit_57, lit_58, lit_59, lit_60, lit_61, lit_63, lit_64, lit_77, lit_95, lit_98, lit_99, lit_101, lit_104, lit_111, lit_112, lit_114, lit_116, lit_122, lit_127, lit_139, lit_147, lit_180, lit_255, lit_1000, lit_1029, I_lt, I_le, I_eq, I_cl, I_inb, if_pos, if_neg, eq_self, Bool.false_eq_true, ite_true, ite_false, Int.zero_add, Int.add_zero]
    | succ r ih =>
      intro k f m hk hf h1 h2
      obtain ⟨f, rfl⟩ : ∃ g, f = g + 1 := ⟨f - 1, by omega⟩
      rw [L_X9_fitAt_4, fitI, x_canBe h T.a8 T.a9 T.a10 (c := k) (by omega) (by omega)]
      cases hb : canB σ k
      · simp (disch := omega) only [brn_if, grd_if, ↓bnd_some, bnd_some, bnd_if, bnd_none, J_at, I_add, I_sub, I_mul, I_neg, lit_0, lit_1, lit_2, lit_3, lit_4, lit_5, lit_6, lit_7, lit_8, lit_9, lit_10, lit_11, lit_12, lit_13, lit_14, lit_20, lit_23, lit_24, lit_32, lit_33, lit_35, lit_40, lit_43, lit_45, lit_46, lit_47, lit_48, lit_49, lit_50, lit_57, lit_58, lit_59, lit_60, lit_61, lit_63, lit_64, lit_77, lit_95, lit_98, lit_99, lit_101, lit_104, lit_111, lit_112, lit_114, lit_116, lit_122, lit_127, lit_139, lit_147, lit_180, lit_255, lit_1000, lit_1029, I_lt, I_le, I_eq, I_cl, I_inb, if_pos, if_neg, eq_self, Bool.false_eq_true, ite_true, ite_false, Int.zero_add, Int.add_zero, bI_f, Bool.false_eq_true]
        exact ih (k + 1) f m (by omega) (by omega) (by omega) (by omega)
      · rw [if_pos rfl]
        by_cases e : m = a
        · simp (disch := omega) only [brn_if, grd_if, ↓bnd_some, bnd_some, bnd_if, bnd_none, J_at, I_add, I_sub, I_mul, I_neg, lit_0, lit_1, lit_2, lit_3, lit_4, lit_5, lit_6, lit_7, lit_8, lit_9, lit_10, lit_11, lit_12, lit_13, lit_14, lit_20, lit_23, lit_24, lit_32, lit_33, lit_35, lit_40, lit_43, lit_45, lit_46, lit_47, lit_48, lit_49, lit_50, lit_57, lit_58, lit_59, lit_60, lit_61, lit_63, lit_64, lit_77, lit_95, lit_98, lit_99, lit_101, lit_104, lit_111, lit_112, lit_114, lit_116, lit_122, lit_127, lit_139, lit_147, lit_180, lit_255, lit_1000, lit_1029, I_lt, I_le, I_eq, I_cl, I_inb, if_pos, if_neg, eq_self, Bool.false_eq_true, ite_true, ite_false, Int.zero_add, Int.add_zero, bI_t]
        · rw [if_neg (by omega)]
          simp (disch := omega) only [brn_if, grd_if, ↓bnd_some, bnd_some, bnd_if, bnd_none, J_at, I_add, I_sub, I_mul, I_neg, lit_0, lit_1, lit_2, lit_3, lit_4, lit_5, lit_6, lit_7, lit_8, lit_9, lit_10, lit_11, lit_12, lit_13, lit_14, lit_20, lit_23, lit_24, lit_32, lit_33, lit_35, lit_40, lit_43, lit_45, lit_46, lit_47, lit_48, lit_49, lit_50, lit_57, lit_58, lit_59, lit_60, lit_61, lit_63, lit_64, lit_77, lit_95, lit_98, lit_99, lit_101, lit_104, lit_111, lit_112, lit_114, lit_116, lit_122, lit_127, lit_139, lit_147, lit_180, lit_255, lit_1000, lit_1029, I_lt, I_le, I_eq, I_cl, I_inb, if_pos, if_neg, eq_self, Bool.false_eq_true, ite_true, ite_false, Int.zero_add, Int.add_zero, bI_t]
          rw [show a - m - 1 = a - (m + 1) by omega]
          exact ih (k + 1) f (m + 1) (by omega) (by omega) (by omega) (by omega)
  have gm : ∀ (r k f : Nat) (m : Int), k + r = 64 → r < f → InR m → 0 ≤ m → 0 < σ 8 → 0 ≤ a → L_X12_fix_4 (I a) (J σ) f (I m) (I k) t = if fitI σ r k m = -1 then some (I 0, I 1) else some (I (fitI σ r k m), I 0) := by
    intro r
    induction r with
    | zero =>
      intro k f m hk hf h1 h2 h3 h4
      obtain ⟨f, rfl⟩ : ∃ g, f = g + 1 := ⟨f - 1, by omega⟩
      rw [L_X12_fix_4, fitI, if_pos rfl]
      unfold J_X12_fix_52 F_X12_fails
      simp (disch := omega) only [brn_if, grd_if, ↓bnd_some, bnd_some, bnd_if, bnd_none, J_at, I_add, I_sub, I_mul, I_neg, lit_0, lit_1, lit_2, lit_3, lit_4, lit_5, lit_6, lit_7, lit_8, lit_9, lit_10, lit_11, lit_12, lit_13, lit_14, lit_20, lit_23, lit_24, lit_32, lit_33, lit_35, lit_40, lit_43, lit_45, lit_46, lit_47, lit_48, lit_49, lit_50, lit_57, lit_58, lit_59, lit_60, lit_61, lit_63, lit_64, lit_77, lit_95, lit_98, lit_99, lit_101, lit_104, lit_111, lit_112, lit_114, lit_116, lit_122, lit_127, lit_139, lit_147, lit_180, lit_255, lit_1000, lit_1029, I_lt, I_le, I_eq, I_cl, I_inb, if_pos, if_neg, eq_self, Bool.false_eq_true, ite_true, ite_false, Int.zero_add, Int.add_zero]
    | succ r ih =>
      intro k f m hk hf h1 h2 h3 h4
      obtain ⟨f, rfl⟩ : ∃ g, f = g + 1 := ⟨f - 1, by omega⟩
      rw [L_X12_fix_4, fitI, m_canBe h (c := k) (by omega) (by omega)]
      cases hb : canB σ k
      · simp (disch := omega) only [brn_if, grd_if, ↓bnd_some, bnd_some, bnd_if, bnd_none, J_at, I_add, I_sub, I_mul, I_neg, lit_0, lit_1, lit_2, lit_3, lit_4, lit_5, lit_6, lit_7, lit_8, lit_9, lit_10, lit_11, lit_12, lit_13, lit_14, lit_20, lit_23, lit_24, lit_32, lit_33, lit_35, lit_40, lit_43, lit_45, lit_46, lit_47, lit_48, lit_49, lit_50, lit_57, lit_58, lit_59, lit_60, lit_61, lit_63, lit_64, lit_77, lit_95, lit_98, lit_99, lit_101, lit_104, lit_111, lit_112, lit_114, lit_116, lit_122, lit_127, lit_139, lit_147, lit_180, lit_255, lit_1000, lit_1029, I_lt, I_le, I_eq, I_cl, I_inb, if_pos, if_neg, eq_self, Bool.false_eq_true, ite_true, ite_false, Int.zero_add, Int.add_zero, tn_0, bI_f, Bool.false_eq_true]
        exact ih (k + 1) f m (by omega) (by omega) h1 (by omega) h3 h4
      · rw [if_pos rfl]
        by_cases e : m = 0
        · rw [if_pos e, if_neg (show ¬ (k : Int) = -1 by omega)]
          simp (disch := omega) only [brn_if, grd_if, ↓bnd_some, bnd_some, bnd_if, bnd_none, J_at, I_add, I_sub, I_mul, I_neg, lit_0, lit_1, lit_2, lit_3, lit_4, lit_5, lit_6, lit_7, lit_8, lit_9, lit_10, lit_11, lit_12, lit_13, lit_14, lit_20, lit_23, lit_24, lit_32, lit_33, lit_35, lit_40, lit_43, lit_45, lit_46, lit_47, lit_48, lit_49, lit_50, lit_57, lit_58, lit_59, lit_60, lit_61, lit_63, lit_64, lit_77, lit_95, lit_98, lit_99, lit_101, lit_104, lit_111, lit_112, lit_114, lit_116, lit_122, lit_127, lit_139, lit_147, lit_180, lit_255, lit_1000, lit_1029, I_lt, I_le, I_eq, I_cl, I_inb, if_pos, if_neg, eq_self, Bool.false_eq_true, ite_true, ite_false, Int.zero_add, Int.add_zero, tn_0, bI_t]
        · rw [if_neg e, m1]
          simp (disch := omega) only [brn_if, grd_if, ↓bnd_some, bnd_some, bnd_if, bnd_none, J_at, I_add, I_sub, I_mul, I_neg, lit_0, lit_1, lit_2, lit_3, lit_4, lit_5, lit_6, lit_7, lit_8, lit_9, lit_10, lit_11, lit_12, lit_13, lit_14, lit_20, lit_23, lit_24, lit_32, lit_33, lit_35, lit_40, lit_43, lit_45, lit_46, lit_47, lit_48, lit_49, lit_50, lit_57, lit_58, lit_59, lit_60, lit_61, lit_63, lit_64, lit_77, lit_95, lit_98, lit_99, lit_101, lit_104, lit_111, lit_112, lit_114, lit_116, lit_122, lit_127, lit_139, lit_147, lit_180, lit_255, lit_1000, lit_1029, I_lt, I_le, I_eq, I_cl, I_inb, if_pos, if_neg, eq_self, Bool.false_eq_true, ite_true, ite_false, Int.zero_add, Int.add_zero, tn_0, bI_t]
          rw [show m + -1 = m - 1 by omega]
          exact ih (k + 1) f (m - 1) (by omega) (by omega) (by omega) (by omega) h3 h4
  have d1 := fitI_in σ 64 0 a (by omega)
  unfold F_X11_fix J_X11_fix_29 F_X12_fix F_X9_hasPrank
  have g0 : F_X9_fitAt (I a) (I (σ 4)) (v.2 8) (v.2 9) (v.2 10) = some (I (fitI σ 64 0 a)) := by
    have := gx 64 0 100 0 (by omega) (by omega) (by omega) (by omega)
    rw [show a - 0 = a by omega] at this
    unfold F_X9_fitAt
    rw [lit_0]
    exact this
  have bad : σ 8 ≤ 0 ∨ a < 0 → L_X12_fix_4 (I a) (J σ) 100 (I a) 0 t = some (I 0, I 1) := by
    intro hc
    show L_X12_fix_4 (I a) (J σ) (99 + 1) (I a) 0 t = some (I 0, I 1)
    rw [L_X12_fix_4]
    unfold J_X12_fix_52 F_X12_fails
    by_cases e : σ 8 ≤ 0
    · simp (disch := omega) only [brn_if, grd_if, ↓bnd_some, bnd_some, bnd_if, bnd_none, J_at, I_add, I_sub, I_mul, I_neg, lit_0, lit_1, lit_2, lit_3, lit_4, lit_5, lit_6, lit_7, lit_8, lit_9, lit_10, lit_11, lit_12, lit_13, lit_14, lit_20, lit_23, lit_24, lit_32, lit_33, lit_35, lit_40, lit_43, lit_45, lit_46, lit_47, lit_48, lit_49, lit_50, lit_57, lit_58, lit_59, lit_60, lit_61, lit_63, lit_64, lit_77, lit_95, lit_98, lit_99, lit_101, lit_104, lit_111, lit_112, lit_114, lit_116, lit_122, lit_127, lit_139, lit_147, lit_180, lit_255, lit_1000, lit_1029, I_lt, I_le, I_eq, I_cl, I_inb, if_pos, if_neg, eq_self, Bool.false_eq_true, ite_true, ite_false, Int.zero_add, Int.add_zero, tn_0]
    · simp (disch := omega) only [brn_if, grd_if, ↓bnd_some, bnd_some, bnd_if, bnd_none, J_at, I_add, I_sub, I_mul, I_neg, lit_0, lit_1, lit_2, lit_3, lit_4, lit_5, lit_6, lit_7, lit_8, lit_9, lit_10, lit_11, lit_12, lit_13, lit_14, lit_20, lit_23, lit_24, lit_32, lit_33, lit_35, lit_40, lit_43, lit_45, lit_46, lit_47, lit_48, lit_49, lit_50, lit_57, lit_58, lit_59, lit_60, lit_61, lit_63, lit_64, lit_77, lit_95, lit_98, lit_99, lit_101, lit_104, lit_111, lit_112, lit_114, lit_116, lit_122, lit_127, lit_139, lit_147, lit_180, lit_255, lit_1000, lit_1029, I_lt, I_le, I_eq, I_cl, I_inb, if_pos, if_neg, eq_self, Bool.false_eq_true, ite_true, ite_false, Int.zero_add, Int.add_zero, tn_0]
  by_cases e1 : σ 8 = 0
  · refine QOK_th 4 1 (by decide) (by decide) (v := I 0) (v2 := I 0) ?_ (bad (by omega))
    simp (disch := omega) only [brn_if, grd_if, ↓bnd_some, bnd_some, bnd_if, bnd_none, J_at, I_add, I_sub, I_mul, I_neg, lit_0, lit_1, lit_2, lit_3, lit_4, lit_5, lit_6, lit_7, lit_8, lit_9, lit_10, lit_11, lit_12, lit_13, lit_14, lit_20, lit_23, lit_24, lit_32, lit_33, lit_35, lit_40, lit_43, lit_45, lit_46, lit_47, lit_48, lit_49, lit_50, lit_57, lit_58, lit_59, lit_60, lit_61, lit_63, lit_64, lit_77, lit_95, lit_98, lit_99, lit_101, lit_104, lit_111, lit_112, lit_114, lit_116, lit_122, lit_127, lit_139, lit_147, lit_180, lit_255, lit_1000, lit_1029, I_lt, I_le, I_eq, I_cl, I_inb, if_pos, if_neg, eq_self, Bool.false_eq_true, ite_true, ite_false, Int.zero_add, Int.add_zero, m1, x_dFf]
  · by_cases e2 : a < 0
    · refine QOK_th 4 1 (by decide) (by decide) (v := I 0) (v2 := I 0) ?_ (bad (by omega))
      rw [g0, fitI_neg σ 64 0 a e2]
      simp (disch := omega) only [brn_if, grd_if, ↓bnd_some, bnd_some, bnd_if, bnd_none, J_at, I_add, I_sub, I_mul, I_neg, lit_0, lit_1, lit_2, lit_3, lit_4, lit_5, lit_6, lit_7, lit_8, lit_9, lit_10, lit_11, lit_12, lit_13, lit_14, lit_20, lit_23, lit_24, lit_32, lit_33, lit_35, lit_40, lit_43, lit_45, lit_46, lit_47, lit_48, lit_49, lit_50, lit_57, lit_58, lit_59, lit_60, lit_61, lit_63, lit_64, lit_77, lit_95, lit_98, lit_99, lit_101, lit_104, lit_111, lit_112, lit_114, lit_116, lit_122, lit_127, lit_139, lit_147, lit_180, lit_255, lit_1000, lit_1029, I_lt, I_le, I_eq, I_cl, I_inb, if_pos, if_neg, eq_self, Bool.false_eq_true, ite_true, ite_false, Int.zero_add, Int.add_zero, m1, x_dFt, x_dFf]
    · have g1 := gm 64 0 100 a (by omega) (by omega) ha (by omega) (by omega) (by omega)
      rw [lit_0]
      by_cases e : fitI σ 64 0 a = -1
      · rw [if_pos e] at g1
        refine QOK_th 4 1 (by decide) (by decide) (v := I 0) (v2 := I 0) ?_ g1
        rw [g0, e]
        simp (disch := omega) only [brn_if, grd_if, ↓bnd_some, bnd_some, bnd_if, bnd_none, J_at, I_add, I_sub, I_mul, I_neg, lit_0, lit_1, lit_2, lit_3, lit_4, lit_5, lit_6, lit_7, lit_8, lit_9, lit_10, lit_11, lit_12, lit_13, lit_14, lit_20, lit_23, lit_24, lit_32, lit_33, lit_35, lit_40, lit_43, lit_45, lit_46, lit_47, lit_48, lit_49, lit_50, lit_57, lit_58, lit_59, lit_60, lit_61, lit_63, lit_64, lit_77, lit_95, lit_98, lit_99, lit_101, lit_104, lit_111, lit_112, lit_114, lit_116, lit_122, lit_127, lit_139, lit_147, lit_180, lit_255, lit_1000, lit_1029, I_lt, I_le, I_eq, I_cl, I_inb, if_pos, if_neg, eq_self, Bool.false_eq_true, ite_true, ite_false, Int.zero_add, Int.add_zero, m1, x_dFt, x_dFf]
      · rw [if_neg e] at g1
        refine QOK_ok (fitI σ 64 0 a) (by decide) ?_ g1
        rw [g0]
        simp (disch := omega) only [brn_if, grd_if, ↓bnd_some, bnd_some, bnd_if, bnd_none, J_at, I_add, I_sub, I_mul, I_neg, lit_0, lit_1, lit_2, lit_3, lit_4, lit_5, lit_6, lit_7, lit_8, lit_9, lit_10, lit_11, lit_12, lit_13, lit_14, lit_20, lit_23, lit_24, lit_32, lit_33, lit_35, lit_40, lit_43, lit_45, lit_46, lit_47, lit_48, lit_49, lit_50, lit_57, lit_58, lit_59, lit_60, lit_61, lit_63, lit_64, lit_77, lit_95, lit_98, lit_99, lit_101, lit_104, lit_111, lit_112, lit_114, lit_116, lit_122, lit_127, lit_139, lit_147, lit_180, lit_255, lit_1000, lit_1029, I_lt, I_le, I_eq, I_cl, I_inb, if_pos, if_neg, eq_self, Bool.false_eq_true, ite_true, ite_false, Int.zero_add, Int.add_zero, m1, x_dFt]
end Q2
