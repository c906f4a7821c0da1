/-! ===== a house, a hall, a post taken out ===== -/
theorem m_at0 (z : Int) : F_X12_at (I z) (I 0) = some (I (77 + 5 * z)) := by
  unfold F_X12_at
  rw [lit_77, lit_5, I_mul, I_add, I_add, Int.add_zero]
section REM
variable {b : Int} {σ : Nat → Int} {v : TVal}
theorem away_ok {p : Nat} {n : Int} (hp : (p : Int) < n) (hn : n ≤ 10) : cpyok (I (77 + 5 * ((p : Int) + 1))) (I (77 + 5 * (p : Int))) (I (5 * (n - 1 - (p : Int)))) 147 147 := I_cpy (by omega) (by omega) (by omega) (by omega) (by omega) (by omega) (by omega) (by omega)
theorem away_c1 {p : Nat} {n : Int} (hp : (p : Int) < n) (hn : n ≤ 10) : (I (77 + 5 * ((p : Int) + 1))).toNatClampNeg = (77 + 5 * ((p : Int) + 1)).toNat := I_cl (by omega) (by omega)
theorem away_c2 {p : Nat} {n : Int} (hp : (p : Int) < n) (hn : n ≤ 10) : (I (77 + 5 * (p : Int))).toNatClampNeg = (77 + 5 * (p : Int)).toNat := I_cl (by omega) (by omega)
theorem away_c3 {p : Nat} {n : Int} (hp : (p : Int) < n) (hn : n ≤ 10) : (I (5 * (n - 1 - (p : Int)))).toNatClampNeg = (5 * (n - 1 - (p : Int))).toNat := I_cl (by omega) (by omega)
def awayS (σ : Nat → Int) (p : Int) : Nat → Int := U (CP σ σ (77 + 5 * (p + 1)).toNat (77 + 5 * p).toNat (5 * (σ 2 - 1 - p)).toNat) 2 (σ 2 - 1)
theorem awayS_at (h : WF b σ) {p : Nat} (hp : (p : Int) < σ 2) : ∀ i : Nat, (i : Int) < σ 2 - 1 → awayS σ p (77 + 5 * i) = σ (77 + 5 * (if i < p then i else i + 1)) ∧ awayS σ p (78 + 5 * i) = σ (78 + 5 * (if i < p then i else i + 1)) ∧ awayS σ p (79 + 5 * i) = σ (79 + 5 * (if i < p then i else i + 1)) ∧ awayS σ p (80 + 5 * i) = σ (80 + 5 * (if i < p then i else i + 1)) ∧ awayS σ p (81 + 5 * i) = σ (81 + 5 * (if i < p then i else i + 1)) := by
  intro i hi
  have hn := h.n
  unfold awayS CP
  by_cases e : i < p
  · rw [if_pos e]
    refine ⟨?_, ?_, ?_, ?_, ?_⟩
    · rw [U_ne _ _ (by omega)]
      exact if_neg (by omega)
    · rw [U_ne _ _ (by omega)]
      exact if_neg (by omega)
    · rw [U_ne _ _ (by omega)]
      exact if_neg (by omega)
    · rw [U_ne _ _ (by omega)]
      exact if_neg (by omega)
    · rw [U_ne _ _ (by omega)]
      exact if_neg (by omega)
  · rw [if_neg e]
    refine ⟨?_, ?_, ?_, ?_, ?_⟩
    · rw [U_ne _ _ (by omega)]
      exact (if_pos (by omega)).trans (congrArg σ (by omega))
    · rw [U_ne _ _ (by omega)]
      exact (if_pos (by omega)).trans (congrArg σ (by omega))
    · rw [U_ne _ _ (by omega)]
      exact (if_pos (by omega)).trans (congrArg σ (by omega))
    · rw [U_ne _ _ (by omega)]
      exact (if_pos (by omega)).trans (congrArg σ (by omega))
    · rw [U_ne _ _ (by omega)]
      exact (if_pos (by omega)).trans (congrArg σ (by omega))
theorem d_away_m (h : WF b σ) {p : Nat} (hp : (p : Int) < σ 2) : F_X12_doGoAway (I p) 0 (J σ) = some (I (σ 2 - 1), I 0, J (awayS σ p)) := by
  have hn := h.n
  unfold F_X12_doGoAway awayS
  rw [m_isHouse_p h (by omega) (by omega)]
  rw [bnd_some, brn_neg _ _ (by decide), grd_pos _ (by decide)]
  simp (disch := omega) only [lit_0, lit_1, lit_5, I_add, m_at0, bnd_some, I_sub, I_mul, J_at, show Int32.toNatClampNeg 2 = 2 from rfl]
  rw [grd_pos _ (away_ok hp hn.2), grd_pos _ (by decide)]
  rw [away_c1 hp hn.2, away_c2 hp hn.2, away_c3 hp hn.2, J_cpy, J_upd]
theorem d_away_x {p : Nat} {n : Int} (hp : (p : Int) < n) (hn : n ≤ 10) (r0 r1 r2 r3 r4 : Nat → Int32) : ∃ s0 s1 s2 s3 s4, F_X2_remove (I p) (I n) r0 r1 r2 r3 r4 = some (I (n - 1), I (n - 1), s0, s1, s2, s3, s4) ∧ (∀ i : Nat, s0 i = if (p : Int) ≤ i ∧ i + 1 < 10 then r0 (i + 1) else r0 i) ∧ (∀ i : Nat, s1 i = if (p : Int) ≤ i ∧ i + 1 < 10 then r1 (i + 1) else r1 i) ∧ (∀ i : Nat, s2 i = if (p : Int) ≤ i ∧ i + 1 < 10 then r2 (i + 1) else r2 i) ∧ (∀ i : Nat, s3 i = if (p : Int) ≤ i ∧ i + 1 < 10 then r3 (i + 1) else r3 i) ∧ (∀ i : Nat, s4 i = if (p : Int) ≤ i ∧ i + 1 < 10 then r4 (i + 1) else r4 i) := by
  obtain ⟨s0, e0, g0⟩ := x_closeGap (N := 10) (by decide) r0 (g := (p : Int)) (by omega) (by omega)
  obtain ⟨s1, e1, g1⟩ := x_closeGap (N := 10) (by decide) r1 (g := (p : Int)) (by omega) (by omega)
  obtain ⟨s2, e2, g2⟩ := x_closeGap (N := 10) (by decide) r2 (g := (p : Int)) (by omega) (by omega)
  obtain ⟨s3, e3, g3⟩ := x_closeGap (N := 10) (by decide) r3 (g := (p : Int)) (by omega) (by omega)
  obtain ⟨s4, e4, g4⟩ := x_closeGap (N := 10) (by decide) r4 (g := (p : Int)) (by omega) (by omega)
  refine ⟨s0, s1, s2, s3, s4, ?_, g0, g1, g2, g3, g4⟩
  unfold F_X2_remove
  rw [e0, e1, e2, e3, e4]
  simp (disch := omega) only [brn_if, grd_if, ↓bnd_some, bnd_some, bnd_if, bnd_none, J_at, I_add, I_sub, I_mul, I_neg, lit_0, lit_1, lit_2, lit_3, lit_4, lit_5, lit_6, lit_7, lit_8, lit_9, lit_10, lit_11, lit_12, lit_13, lit_14, lit_20, lit_23, lit_24, lit_32, lit_33, lit_35, lit_40, lit_43, lit_45, lit_46, lit_47, lit_48, lit_49, lit_50, lit_57, lit_58, lit_59, lit_60, lit_61, lit_63, lit_64, lit_77, lit_95, lit_98, lit_99, lit_101, lit_104, lit_111, lit_112, lit_114, lit_116, lit_122, lit_127, lit_139, lit_147, lit_180, lit_255, lit_1000, lit_1029, I_lt, I_le, I_eq, I_cl, I_inb, if_pos, if_neg, eq_self, Bool.false_eq_true, ite_true, ite_false, Int.zero_add, Int.add_zero]
def unhallS (σ : Nat → Int) (p : Int) : Nat → Int := U (CP σ σ (127 + 3 * (p + 1)).toNat (127 + 3 * p).toNat (3 * (σ 3 - 1 - p)).toNat) 3 (σ 3 - 1)
theorem unhallS_at (h : WF b σ) {p : Nat} (hp : (p : Int) < σ 3) : ∀ i : Nat, (i : Int) < σ 3 - 1 → unhallS σ p (127 + 3 * i) = σ (127 + 3 * (if i < p then i else i + 1)) ∧ unhallS σ p (128 + 3 * i) = σ (128 + 3 * (if i < p then i else i + 1)) ∧ unhallS σ p (129 + 3 * i) = σ (129 + 3 * (if i < p then i else i + 1)) := by
  intro i hi
  have hn := h.m
  unfold unhallS CP
  by_cases e : i < p
  · rw [if_pos e]
    refine ⟨?_, ?_, ?_⟩
    · rw [U_ne _ _ (by omega)]
      exact if_neg (by omega)
    · rw [U_ne _ _ (by omega)]
      exact if_neg (by omega)
    · rw [U_ne _ _ (by omega)]
      exact if_neg (by omega)
  · rw [if_neg e]
    refine ⟨?_, ?_, ?_⟩
    · rw [U_ne _ _ (by omega)]
      exact (if_pos (by omega)).trans (congrArg σ (by omega))
    · rw [U_ne _ _ (by omega)]
      exact (if_pos (by omega)).trans (congrArg σ (by omega))
    · rw [U_ne _ _ (by omega)]
      exact (if_pos (by omega)).trans (congrArg σ (by omega))
theorem d_unhall_m (h : WF b σ) {p : Nat} (hp : (p : Int) < σ 3) : F_X12_doDropHall (I p) 0 (J σ) = some (I (σ 3 - 1), I 0, J (unhallS σ p)) := by
  have hn := h.m
  unfold F_X12_doDropHall unhallS
  have k1 : F_X12_in (I p) 0 (J σ (Int32.toNatClampNeg 3) - 1) = some (I 1) := by
    rw [lit_3, lit_0, lit_1, I_cl (by omega) (by omega), J_at, tn_0.2.2.2.1, I_sub]
    exact I_min (by omega) (by omega) (by omega) (by omega)
  rw [k1]
  simp (disch := omega) only [brn_if, grd_if, ↓bnd_some, bnd_some, bnd_if, bnd_none, J_at, I_add, I_sub, I_mul, I_neg, lit_0, lit_1, lit_2, lit_3, lit_4, lit_5, lit_6, lit_7, lit_8, lit_9, lit_10, lit_11, lit_12, lit_13, lit_14, lit_20, lit_23, lit_24, lit_32, lit_33, lit_35, lit_40, lit_43, lit_45, lit_46, lit_47, lit_48, lit_49, lit_50, lit_57, lit_58, lit_59, lit_60, lit_61, lit_63, lit_64, lit_77, lit_95, lit_98, lit_99, lit_101, lit_104, lit_111, lit_112, lit_114, lit_116, lit_122, lit_127, lit_139, lit_147, lit_180, lit_255, lit_1000, lit_1029, I_lt, I_le, I_eq, I_cl, I_inb, if_pos, if_neg, eq_self, Bool.false_eq_true, ite_true, ite_false, Int.zero_add, Int.add_zero, tn_0, J_cpy, J_upd, m_at0]
  exact if_pos (I_cpy (by omega) (by omega) (by omega) (by omega) (by omega) (by omega) (by omega) (by omega))
theorem d_unhall_x {p : Nat} {n : Int} (hp : (p : Int) < n) (hn : n ≤ 4) (r5 r6 r7 : Nat → Int32) : ∃ s5 s6 s7, F_X1_remove (I p) (I n) r5 r6 r7 = some (I (n - 1), I (n - 1), s5, s6, s7) ∧ (∀ i : Nat, s5 i = if (p : Int) ≤ i ∧ i + 1 < 4 then r5 (i + 1) else r5 i) ∧ (∀ i : Nat, s6 i = if (p : Int) ≤ i ∧ i + 1 < 4 then r6 (i + 1) else r6 i) ∧ (∀ i : Nat, s7 i = if (p : Int) ≤ i ∧ i + 1 < 4 then r7 (i + 1) else r7 i) := by
  obtain ⟨s5, e5, g5⟩ := x_closeGap (N := 4) (by decide) r5 (g := (p : Int)) (by omega) (by omega)
  obtain ⟨s6, e6, g6⟩ := x_closeGap (N := 4) (by decide) r6 (g := (p : Int)) (by omega) (by omega)
  obtain ⟨s7, e7, g7⟩ := x_closeGap (N := 4) (by decide) r7 (g := (p : Int)) (by omega) (by omega)
  refine ⟨s5, s6, s7, ?_, g5, g6, g7⟩
  unfold F_X1_remove
  rw [e5, e6, e7]
  simp (disch := omega) only [brn_if, grd_if, ↓bnd_some, bnd_some, bnd_if, bnd_none, J_at, I_add, I_sub, I_mul, I_neg, lit_0, lit_1, lit_2, lit_3, lit_4, lit_5, lit_6, lit_7, lit_8, lit_9, lit_10, lit_11, lit_12, lit_13, lit_14, lit_20, lit_23, lit_24, lit_32, lit_33, lit_35, lit_40, lit_43, lit_45, lit_46, lit_47, lit_48, lit_49, lit_50, lit_57, lit_58, lit_59, lit_60, lit_61, lit_63, lit_64, lit_77, lit_95, lit_98, lit_99, lit_101, lit_104, lit_111, lit_112, lit_114, lit_116, lit_122, lit_127, lit_139, lit_147, lit_180, lit_255, lit_1000, lit_1029, I_lt, I_le, I_eq, I_cl, I_inb, if_pos, if_neg, eq_self, Bool.false_eq_true, ite_true, ite_false, Int.zero_add, Int.add_zero]
def unpostS (σ : Nat → Int) (p : Int) : Nat → Int := U (CP σ σ (139 + 2 * (p + 1)).toNat (139 + 2 * p).toNat (2 * (σ 4 - 1 - p)).toNat) 4 (σ 4 - 1)
theorem unpostS_at (h : WF b σ) {p : Nat} (hp : (p : Int) < σ 4) : ∀ i : Nat, (i : Int) < σ 4 - 1 → unpostS σ p (139 + 2 * i) = σ (139 + 2 * (if i < p then i else i + 1)) ∧ unpostS σ p (140 + 2 * i) = σ (140 + 2 * (if i < p then i else i + 1)) := by
  intro i hi
  have hn := h.q
  unfold unpostS CP
  by_cases e : i < p
  · rw [if_pos e]
    refine ⟨?_, ?_⟩
    · rw [U_ne _ _ (by omega)]
      exact if_neg (by omega)
    · rw [U_ne _ _ (by omega)]
      exact if_neg (by omega)
  · rw [if_neg e]
    refine ⟨?_, ?_⟩
    · rw [U_ne _ _ (by omega)]
      exact (if_pos (by omega)).trans (congrArg σ (by omega))
    · rw [U_ne _ _ (by omega)]
      exact (if_pos (by omega)).trans (congrArg σ (by omega))
theorem d_unpost_m (h : WF b σ) {p : Nat} (hp : (p : Int) < σ 4) : F_X12_doDropPost (I p) 0 (J σ) = some (I (σ 4 - 1), I 0, J (unpostS σ p)) := by
  have hn := h.q
  unfold F_X12_doDropPost unpostS
  rw [m_isPost_p h (by omega) (by omega)]
  simp (disch := omega) only [brn_if, grd_if, ↓bnd_some, bnd_some, bnd_if, bnd_none, J_at, I_add, I_sub, I_mul, I_neg, lit_0, lit_1, lit_2, lit_3, lit_4, lit_5, lit_6, lit_7, lit_8, lit_9, lit_10, lit_11, lit_12, lit_13, lit_14, lit_20, lit_23, lit_24, lit_32, lit_33, lit_35, lit_40, lit_43, lit_45, lit_46, lit_47, lit_48, lit_49, lit_50, lit_57, lit_58, lit_59, lit_60, lit_61, lit_63, lit_64, lit_77, lit_95, lit_98, lit_99, lit_101, lit_104, lit_111, lit_112, lit_114, lit_116, lit_122, lit_127, lit_139, lit_147, lit_180, lit_255, lit_1000, lit_1029, I_lt, I_le, I_eq, I_cl, I_inb, if_pos, if_neg, eq_self, Bool.false_eq_true, ite_true, ite_false, Int.zero_add, Int.add_zero, tn_0, J_cpy, J_upd, m_at0]
  exact if_pos (I_cpy (by omega) (by omega) (by omega) (by omega) (by omega) (by omega) (by omega) (by omega))
theorem d_unpost_x {p : Nat} {n : Int} (hp : (p : Int) < n) (hn : n ≤ 4) (r8 r9 : Nat → Int32) : ∃ s8 s9, F_X5_remove (I p) (I n) r8 r9 = some (I (n - 1), I (n - 1), s8, s9) ∧ (∀ i : Nat, s8 i = if (p : Int) ≤ i ∧ i + 1 < 4 then r8 (i + 1) else r8 i) ∧ (∀ i : Nat, s9 i = if (p : Int) ≤ i ∧ i + 1 < 4 then r9 (i + 1) else r9 i) := by
  obtain ⟨s8, e8, g8⟩ := x_closeGap (N := 4) (by decide) r8 (g := (p : Int)) (by omega) (by omega)
  obtain ⟨s9, e9, g9⟩ := x_closeGap (N := 4) (by decide) r9 (g := (p : Int)) (by omega) (by omega)
  refine ⟨s8, s9, ?_, g8, g9⟩
  unfold F_X5_remove
  rw [e8, e9]
  simp (disch := omega) only [brn_if, grd_if, ↓bnd_some, bnd_some, bnd_if, bnd_none, J_at, I_add, I_sub, I_mul, I_neg, lit_0, lit_1, lit_2, lit_3, lit_4, lit_5, lit_6, lit_7, lit_8, lit_9, lit_10, lit_11, lit_12, lit_13, lit_14, lit_20, lit_23, lit_24, lit_32, lit_33, lit_35, lit_40, lit_43, lit_45, lit_46, lit_47, lit_48, lit_49, lit_50, lit_57, lit_58, lit_59, lit_60, lit_61, lit_63, lit_64, lit_77, lit_95, lit_98, lit_99, lit_101, lit_104, lit_111, lit_112, lit_114, lit_116, lit_122, lit_127, lit_139, lit_147, lit_180, lit_255, lit_1000, lit_1029, I_lt, I_le, I_eq, I_cl, I_inb, if_pos, if_neg, eq_self, Bool.false_eq_true, ite_true, ite_false, Int.zero_add, Int.add_zero]
theorem d_away_w (h : WF b σ) (T : TR σ v) {p : Nat} (hp : (p : Int) < σ 2) {s0 s1 s2 s3 s4 : Nat → Int32} (g0 : ∀ i : Nat, s0 i = if (p : Int) ≤ i ∧ i + 1 < 10 then v.2 0 (i + 1) else v.2 0 i) (g1 : ∀ i : Nat, s1 i = if (p : Int) ≤ i ∧ i + 1 < 10 then v.2 1 (i + 1) else v.2 1 i) (g2 : ∀ i : Nat, s2 i = if (p : Int) ≤ i ∧ i + 1 < 10 then v.2 2 (i + 1) else v.2 2 i) (g3 : ∀ i : Nat, s3 i = if (p : Int) ≤ i ∧ i + 1 < 10 then v.2 3 (i + 1) else v.2 3 i) (g4 : ∀ i : Nat, s4 i = if (p : Int) ≤ i ∧ i + 1 < 10 then v.2 4 (i + 1) else v.2 4 i) :
    WF b (awayS σ p) ∧ TR (awayS σ p) (tvMk (v.1 0) (v.1 1) (v.1 2) (v.1 3) (v.1 4) (v.1 5) (I (σ 2 - 1)) (v.1 7) (v.1 8) s0 s1 s2 s3 s4 (v.2 5) (v.2 6) (v.2 7) (v.2 8) (v.2 9) (v.2 10) (v.2 11)) := by
  have hn := h.n
  have he : ∀ k : Nat, k < 147 → k ≠ 2 → ¬ (77 ≤ k ∧ k < 127) → awayS σ p k = σ k := by
    intro k h1 h2 h3
    unfold awayS CP
    rw [U_ne _ _ h2]
    exact if_neg (by omega)
  have h2 : awayS σ p 2 = σ 2 - 1 := by unfold awayS; exact U_same _ _ _
  have hA := awayS_at h hp
  have hc : ∀ i : Nat, (if i < p then i else i + 1) = if (i : Int) < (p : Int) then i else i + 1 := fun i => by split <;> split <;> omega
  refine ⟨WF_house h ?_ he (by rw [h2]; omega) ?_ ?_, TR_house h T he (by rw [h2]) ?_ ?_ ?_ ?_ ?_⟩
  · exact U_r (CP_r h.r h.r) (by omega)
  · intro i hi
    rw [h2] at hi
    obtain ⟨q1, q2, q3, q4, q5⟩ := hA i hi
    rw [q1, q2, q3, q4, q5]
    exact h.house (by split <;> omega)
  · intro i j hi hj
    rw [h2] at hi hj
    rw [(hA i hi).1, (hA j hj).1]
    intro q
    have := h.one (by split <;> omega) (by split <;> omega) q
    split at this <;> split at this <;> omega
  · rw [h2]; exact AR_gap T.a0 (by omega) hp hn.2 g0 (fun i hi => by rw [(hA i hi).1]; split <;> split <;> first | rfl | omega)
  · rw [h2]; exact AR_gap T.a1 (by omega) hp hn.2 g1 (fun i hi => by rw [(hA i hi).2.1]; split <;> split <;> first | rfl | omega)
  · rw [h2]; exact AR_gap T.a2 (by omega) hp hn.2 g2 (fun i hi => by rw [(hA i hi).2.2.1]; split <;> split <;> first | rfl | omega)
  · rw [h2]; exact AR_gap T.a3 (by omega) hp hn.2 g3 (fun i hi => by rw [(hA i hi).2.2.2.1]; split <;> split <;> first | rfl | omega)
  · rw [h2]; exact AR_gap T.a4 (by omega) hp hn.2 g4 (fun i hi => by rw [(hA i hi).2.2.2.2]; split <;> split <;> first | rfl | omega)
theorem d_unhall_w (h : WF b σ) (T : TR σ v) {p : Nat} (hp : (p : Int) < σ 3) {s5 s6 s7 : Nat → Int32} (g5 : ∀ i : Nat, s5 i = if (p : Int) ≤ i ∧ i + 1 < 4 then v.2 5 (i + 1) else v.2 5 i) (g6 : ∀ i : Nat, s6 i = if (p : Int) ≤ i ∧ i + 1 < 4 then v.2 6 (i + 1) else v.2 6 i) (g7 : ∀ i : Nat, s7 i = if (p : Int) ≤ i ∧ i + 1 < 4 then v.2 7 (i + 1) else v.2 7 i) :
    WF b (unhallS σ p) ∧ TR (unhallS σ p) (tvMk (v.1 0) (v.1 1) (v.1 2) (v.1 3) (v.1 4) (v.1 5) (v.1 6) (I (σ 3 - 1)) (v.1 8) (v.2 0) (v.2 1) (v.2 2) (v.2 3) (v.2 4) s5 s6 s7 (v.2 8) (v.2 9) (v.2 10) (v.2 11)) := by
  have hn := h.m
  have he : ∀ k : Nat, k < 147 → (k ≠ 3 ∧ ¬ (127 ≤ k ∧ k < 139)) → unhallS σ p k = σ k := by
    intro k h1 h2
    unfold unhallS CP
    rw [U_ne _ _ h2.1]
    exact if_neg (by omega)
  have h2 : unhallS σ p 3 = σ 3 - 1 := by unfold unhallS; exact U_same _ _ _
  have hA := unhallS_at h hp
  refine ⟨WF_hall h ?_ he (by rw [h2]; omega) ?_ ?_, TR_hall h T he (by rw [h2]) ?_ ?_ ?_⟩
  · exact U_r (CP_r h.r h.r) (by omega)
  · intro i hi
    rw [h2] at hi
    obtain ⟨q1, q2, q3⟩ := hA i hi
    rw [q1, q2, q3]
    exact h.hall (by split <;> omega)
  · intro i j hi hj
    rw [h2] at hi hj
    obtain ⟨q1, q2, q3⟩ := hA i hi
    obtain ⟨t1, t2, t3⟩ := hA j hj
    rw [q1, q2, q3, t1, t2, t3]
    intro ne q
    exact h.apart (by split <;> omega) (by split <;> omega) (by split <;> split <;> omega) q
  · rw [h2]; exact AR_gap T.a5 (by omega) hp hn.2 g5 (fun i hi => by rw [(hA i hi).1]; split <;> split <;> first | rfl | omega)
  · rw [h2]; exact AR_gap T.a6 (by omega) hp hn.2 g6 (fun i hi => by rw [(hA i hi).2.1]; split <;> split <;> first | rfl | omega)
  · rw [h2]; exact AR_gap T.a7 (by omega) hp hn.2 g7 (fun i hi => by rw [(hA i hi).2.2]; split <;> split <;> first | rfl | omega)
theorem d_unpost_w (h : WF b σ) (T : TR σ v) {p : Nat} (hp : (p : Int) < σ 4) {s8 s9 : Nat → Int32} (g8 : ∀ i : Nat, s8 i = if (p : Int) ≤ i ∧ i + 1 < 4 then v.2 8 (i + 1) else v.2 8 i) (g9 : ∀ i : Nat, s9 i = if (p : Int) ≤ i ∧ i + 1 < 4 then v.2 9 (i + 1) else v.2 9 i) :
    WF b (unpostS σ p) ∧ TR (unpostS σ p) (tvMk (v.1 0) (v.1 1) (v.1 2) (v.1 3) (v.1 4) (v.1 5) (v.1 6) (v.1 7) (I (σ 4 - 1)) (v.2 0) (v.2 1) (v.2 2) (v.2 3) (v.2 4) (v.2 5) (v.2 6) (v.2 7) s8 s9 (v.2 10) (v.2 11)) := by
  have hn := h.q
  have he : ∀ k : Nat, k < 147 → (k ≠ 4 ∧ ¬ (139 ≤ k ∧ k < 147)) → unpostS σ p k = σ k := by
    intro k h1 h2
    unfold unpostS CP
    rw [U_ne _ _ h2.1]
    exact if_neg (by omega)
  have h2 : unpostS σ p 4 = σ 4 - 1 := by unfold unpostS; exact U_same _ _ _
  have hA := unpostS_at h hp
  refine ⟨WF_post h ?_ he (by rw [h2]; omega) ?_ ?_, TR_post h T he (by rw [h2]) ?_ ?_⟩
  · exact U_r (CP_r h.r h.r) (by omega)
  · intro i hi
    rw [h2] at hi
    obtain ⟨q1, q2⟩ := hA i hi
    rw [q1, q2]
    exact h.post (by split <;> omega)
  · intro i j hi hj
    rw [h2] at hi hj
    rw [(hA i hi).1, (hA j hj).1]
    intro q
    have := h.oneP (by split <;> omega) (by split <;> omega) q
    split at this <;> split at this <;> omega
  · rw [h2]; exact AR_gap T.a8 (by omega) hp hn.2 g8 (fun i hi => by rw [(hA i hi).1]; split <;> split <;> first | rfl | omega)
  · rw [h2]; exact AR_gap T.a9 (by omega) hp hn.2 g9 (fun i hi => by rw [(hA i hi).2]; split <;> split <;> first | rfl | omega)
end REM
section OPR
variable {b : Int} {x : XVal} {y : MVal}
theorem op_goAway (hR : Rel b x y) (hb : 0 ≤ b) (p1 : Int32) : OPK [(0, 0), (1, 1)] b (G_goAway p1 x) (H_goAway p1 y) := by
  obtain ⟨σ, π, n, e, ⟨hw, hs, T⟩, hK, ⟨h28, h29, hm, hp, hP⟩, hQ, hO, hS⟩ := hR
  obtain ⟨a, ha, rfl⟩ := I_ex p1
  obtain ⟨β, -, hβ⟩ := J_ex (y.2 1)
  have hn := hw.n
  have h7 : x.1 7 = I (σ 2) := T.1.2.2.2.2.2.2.1
  have T2 : TR σ (tvMk (x.1 1) (x.1 2) (x.1 3) (x.1 4) (x.1 5) (x.1 6) (I (σ 2)) (x.1 8) (x.1 9) (x.2.1 0) (x.2.1 1) (x.2.1 2) (x.2.1 3) (x.2.1 4) (x.2.1 5) (x.2.1 6) (x.2.1 7) (x.2.1 8) (x.2.1 9) (x.2.1 10) (x.2.1 11)) := by rw [← h7]; exact T
  unfold G_goAway H_goAway F_X11_goAway F_X12_goAway
  rw [hs, hβ, hm, hp, m_keep, bnd_some, h7, h28, h29]
  by_cases e1 : 0 ≤ a ∧ a < σ 2
  · obtain ⟨p, rfl⟩ := Int.eq_ofNat_of_zero_le e1.1
    obtain ⟨s0, s1, s2, s3, s4, q3, g0, g1, g2, g3, g4⟩ := d_away_x (p := p) e1.2 hn.2 (x.2.1 0) (x.2.1 1) (x.2.1 2) (x.2.1 3) (x.2.1 4)
    obtain ⟨w1, w2⟩ := d_away_w (v := xT x) hw T e1.2 g0 g1 g2 g3 g4
    obtain ⟨pool', q1, q2⟩ := x_push T2 hw hP
    rw [x_has_p ha (by omega) e1, bnd_some, x_dLt, bnd_some, brn_pos _ _ rfl, q1, bnd_some, q3, bnd_some, d_away_m hw e1.2]
    simp only [bnd_some]
    rw [show I 0 = (0 : Int32) from rfl, m_ends hP.1, bnd_some]
    exact ⟨0, _, _, _, _, 0, by decide, rfl, rfl, rfl, fun _ => rfl, ⟨_, _, _, _, ⟨w1.mono (by omega), rfl, w2⟩, hK.mono (by omega), ⟨rfl, rfl, rfl, rfl, q2.mono (by omega)⟩, hQ, hO, hS⟩⟩
  · have q3 : F_X12_doGoAway (I a) 0 (J σ) = some (0, I 1, J σ) := by
      unfold F_X12_doGoAway
      rw [m_isHouse_n hw ha e1, bnd_some, brn_pos _ _ (by decide)]
      rfl
    rw [x_has_n ha (by omega) e1, bnd_some, x_dLf, bnd_some, brn_neg _ _ (by decide), q3, bnd_some, bnd_some, m_endsF (t := 1) (by omega) (by omega), bnd_some, CP_self]
    exact ⟨1, _, _, _, _, 1, by decide, rfl, rfl, rfl, fun q => absurd q (by decide), ⟨σ, π, n, e, ⟨hw.mono (by omega), rfl, T2⟩, hK.mono (by omega), ⟨rfl, rfl, rfl, rfl, hP.mono (by omega)⟩, hQ, hO, hS⟩⟩
theorem op_dropHall (hR : Rel b x y) (hb : 0 ≤ b) (p1 : Int32) : OPK [(0, 0), (1, 1)] b (G_dropHall p1 x) (H_dropHall p1 y) := by
  obtain ⟨σ, π, n, e, ⟨hw, hs, T⟩, hK, ⟨h28, h29, hm, hp, hP⟩, hQ, hO, hS⟩ := hR
  obtain ⟨a, ha, rfl⟩ := I_ex p1
  obtain ⟨β, -, hβ⟩ := J_ex (y.2 1)
  have hn := hw.m
  have h7 : x.1 8 = I (σ 3) := T.1.2.2.2.2.2.2.2.1
  have T2 : TR σ (tvMk (x.1 1) (x.1 2) (x.1 3) (x.1 4) (x.1 5) (x.1 6) (x.1 7) (I (σ 3)) (x.1 9) (x.2.1 0) (x.2.1 1) (x.2.1 2) (x.2.1 3) (x.2.1 4) (x.2.1 5) (x.2.1 6) (x.2.1 7) (x.2.1 8) (x.2.1 9) (x.2.1 10) (x.2.1 11)) := by rw [← h7]; exact T
  unfold G_dropHall H_dropHall F_X11_dropHall F_X12_dropHall
  rw [hs, hβ, hm, hp, m_keep, bnd_some, h7, h28, h29]
  by_cases e1 : 0 ≤ a ∧ a < σ 3
  · obtain ⟨p, rfl⟩ := Int.eq_ofNat_of_zero_le e1.1
    obtain ⟨s5, s6, s7, q3, g5, g6, g7⟩ := d_unhall_x (p := p) e1.2 hn.2 (x.2.1 5) (x.2.1 6) (x.2.1 7)
    obtain ⟨w1, w2⟩ := d_unhall_w (v := xT x) hw T e1.2 g5 g6 g7
    obtain ⟨pool', q1, q2⟩ := x_push T2 hw hP
    rw [x1_has_p ha (by omega) e1, bnd_some, x_dLt, bnd_some, brn_pos _ _ rfl, q1, bnd_some, q3, bnd_some, d_unhall_m hw e1.2]
    simp only [bnd_some]
    rw [show I 0 = (0 : Int32) from rfl, m_ends hP.1, bnd_some]
    exact ⟨0, _, _, _, _, 0, by decide, rfl, rfl, rfl, fun _ => rfl, ⟨_, _, _, _, ⟨w1.mono (by omega), rfl, w2⟩, hK.mono (by omega), ⟨rfl, rfl, rfl, rfl, q2.mono (by omega)⟩, hQ, hO, hS⟩⟩
  · have q3 : F_X12_doDropHall (I a) 0 (J σ) = some (0, I 1, J σ) := by
      unfold F_X12_doDropHall
      rw [show F_X12_in (I a) 0 (J σ (Int32.toNatClampNeg 3) - 1) = some (I 0) by (rw [lit_3, lit_0, lit_1, I_cl (by omega) (by omega), J_at, tn_0.2.2.2.1, I_sub]; exact I_mout (by omega) (by omega) (by omega) (by omega)), grd_pos _ (by decide), bnd_some, brn_pos _ _ (by decide)]
      rfl
    rw [x1_has_n ha (by omega) e1, bnd_some, x_dLf, bnd_some, brn_neg _ _ (by decide), q3, bnd_some, bnd_some, m_endsF (t := 1) (by omega) (by omega), bnd_some, CP_self]
    exact ⟨1, _, _, _, _, 1, by decide, rfl, rfl, rfl, fun q => absurd q (by decide), ⟨σ, π, n, e, ⟨hw.mono (by omega), rfl, T2⟩, hK.mono (by omega), ⟨rfl, rfl, rfl, rfl, hP.mono (by omega)⟩, hQ, hO, hS⟩⟩
theorem op_dropPost (hR : Rel b x y) (hb : 0 ≤ b) (p1 : Int32) : OPK [(0, 0), (1, 1)] b (G_dropPost p1 x) (H_dropPost p1 y) := by
  obtain ⟨σ, π, n, e, ⟨hw, hs, T⟩, hK, ⟨h28, h29, hm, hp, hP⟩, hQ, hO, hS⟩ := hR
  obtain ⟨a, ha, rfl⟩ := I_ex p1
  obtain ⟨β, -, hβ⟩ := J_ex (y.2 1)
  have hn := hw.q
  have h7 : x.1 9 = I (σ 4) := T.1.2.2.2.2.2.2.2.2
  have T2 : TR σ (tvMk (x.1 1) (x.1 2) (x.1 3) (x.1 4) (x.1 5) (x.1 6) (x.1 7) (x.1 8) (I (σ 4)) (x.2.1 0) (x.2.1 1) (x.2.1 2) (x.2.1 3) (x.2.1 4) (x.2.1 5) (x.2.1 6) (x.2.1 7) (x.2.1 8) (x.2.1 9) (x.2.1 10) (x.2.1 11)) := by rw [← h7]; exact T
  unfold G_dropPost H_dropPost F_X11_dropPost F_X12_dropPost
  rw [hs, hβ, hm, hp, m_keep, bnd_some, h7, h28, h29]
  by_cases e1 : 0 ≤ a ∧ a < σ 4
  · obtain ⟨p, rfl⟩ := Int.eq_ofNat_of_zero_le e1.1
    obtain ⟨s8, s9, q3, g8, g9⟩ := d_unpost_x (p := p) e1.2 hn.2 (x.2.1 8) (x.2.1 9)
    obtain ⟨w1, w2⟩ := d_unpost_w (v := xT x) hw T e1.2 g8 g9
    obtain ⟨pool', q1, q2⟩ := x_push T2 hw hP
    rw [x5_has_p ha (by omega) e1, bnd_some, x_dLt, bnd_some, brn_pos _ _ rfl, q1, bnd_some, q3, bnd_some, d_unpost_m hw e1.2]
    simp only [bnd_some]
    rw [show I 0 = (0 : Int32) from rfl, m_ends hP.1, bnd_some]
    exact ⟨0, _, _, _, _, 0, by decide, rfl, rfl, rfl, fun _ => rfl, ⟨_, _, _, _, ⟨w1.mono (by omega), rfl, w2⟩, hK.mono (by omega), ⟨rfl, rfl, rfl, rfl, q2.mono (by omega)⟩, hQ, hO, hS⟩⟩
  · have q3 : F_X12_doDropPost (I a) 0 (J σ) = some (0, I 1, J σ) := by
      unfold F_X12_doDropPost
      rw [m_isPost_n hw ha e1, bnd_some, brn_pos _ _ (by decide)]
      rfl
    rw [x5_has_n ha (by omega) e1, bnd_some, x_dLf, bnd_some, brn_neg _ _ (by decide), q3, bnd_some, bnd_some, m_endsF (t := 1) (by omega) (by omega), bnd_some, CP_self]
    exact ⟨1, _, _, _, _, 1, by decide, rfl, rfl, rfl, fun q => absurd q (by decide), ⟨σ, π, n, e, ⟨hw.mono (by omega), rfl, T2⟩, hK.mono (by omega), ⟨rfl, rfl, rfl, rfl, hP.mono (by omega)⟩, hQ, hO, hS⟩⟩
end OPR
