/-! ===== halls, what posts tell ===== -/
section M4
variable {b : Int} {σ : Nat → Int} {v : TVal} {rn rd mr md : Int32}
def hallP (σ : Nat → Int) (r : Int) (j : Nat) : Bool := decide (0 ≤ lOn σ (8 * r + j))
def hallS (σ : Nat → Int) (r f l : Int) : Nat → Int := U (U (U (U σ (127 + 3 * σ 3).toNat r) (127 + 3 * σ 3 + 1).toNat f) (127 + 3 * σ 3 + 2).toNat l) 3 (σ 3 + 1)
theorem x_lane_p {a : Int} (ha : InR a) (e : 0 ≤ a ∧ a ≤ 7) : F_X11_isLane (I a) = some (I 1) := by rw [x_isLane ha, decide_eq_true e, bI_t]
theorem x_lane_n {a : Int} (ha : InR a) (e : ¬ (0 ≤ a ∧ a ≤ 7)) : F_X11_isLane (I a) = some (I 0) := by rw [x_isLane ha, decide_eq_false e, bI_f]
theorem fIx_n1 (p : Nat → Bool) (r k : Nat) : fIx p r k = -1 ∨ 0 ≤ fIx p r k := by
  rcases fIx_sp p r k with ⟨h, -⟩ | ⟨i, -, -, -, h, -⟩
  · exact Or.inl h
  · exact Or.inr (by omega)
theorem x_hallL (h : WF b σ) (T : TR σ v) {r l : Int} (hr : 0 ≤ r ∧ r ≤ 7) (hl : l ≤ 7) (p2 : Int32) : ∀ (m k f : Nat), (k : Int) + m = l + 1 → m < f → L_X9_judgeHall_31 (I r) p2 (I l) (I (σ 3)) (v.2 5) (v.2 6) (v.2 7) f (I k) rn rd = if fIx (hallP σ r) m k = -1 then (if σ 3 < 4 then some (I 0, rn, rd) else some (I 3, I 1, I 4)) else some (I 3, I 4, I (8 * r + fIx (hallP σ r) m k)) := by
  have hn := h.m
  intro m
  induction m with
  | zero =>
    intro k f hk hf
    obtain ⟨f, rfl⟩ : ∃ g, f = g + 1 := ⟨f - 1, by omega⟩
    rw [L_X9_judgeHall_31, fIx, if_pos rfl]
    unfold F_X1_isFull F_X6_refuse
    by_cases e : σ 3 < 4
    · rw [if_pos e]
      simp (disch := omega) only [brn_if, grd_if, ↓bnd_some, bnd_some, bnd_if, bnd_none, J_at, I_add, I_sub, I_mul, I_neg, lit_0, lit_1, lit_2, lit_3, lit_4, lit_5, lit_6, lit_7, lit_8, lit_9, lit_10, lit_11, lit_12, lit_13, lit_14, lit_20, lit_23, lit_24, lit_32, lit_33, lit_35, lit_40, lit_43, lit_45, lit_46, lit_47, lit_48, lit_49, lit_50, lit_57, lit_58, lit_59, lit_60, lit_61, lit_63, lit_64, lit_77, lit_95, lit_98, lit_99, lit_101, lit_104, lit_111, lit_112, lit_114, lit_116, lit_122, lit_127, lit_139, lit_147, lit_180, lit_255, lit_1000, lit_1029, I_lt, I_le, I_eq, I_cl, I_inb, if_pos, if_neg, eq_self, Bool.false_eq_true, ite_true, ite_false, Int.zero_add, Int.add_zero]
    · rw [if_neg e]
      simp (disch := omega) only [brn_if, grd_if, ↓bnd_some, bnd_some, bnd_if, bnd_none, J_at, I_add, I_sub, I_mul, I_neg, lit_0, lit_1, lit_2, lit_3, lit_4, lit_5, lit_6, lit_7, lit_8, lit_9, lit_10, lit_11, lit_12, lit_13, lit_14, lit_20, lit_23, lit_24, lit_32, lit_33, lit_35, lit_40, lit_43, lit_45, lit_46, lit_47, lit_48, lit_49, lit_50, lit_57, lit_58, lit_59, lit_60, lit_61, lit_63, lit_64, lit_77, lit_95, lit_98, lit_99, lit_101, lit_104, lit_111, lit_112, lit_114, lit_116, lit_122, lit_127, lit_139, lit_147, lit_180, lit_255, lit_1000, lit_1029, I_lt, I_le, I_eq, I_cl, I_inb, if_pos, if_neg, eq_self, Bool.false_eq_true, ite_true, ite_false, Int.zero_add, Int.add_zero]
  | succ m ih =>
    intro k f hk hf
    obtain ⟨f, rfl⟩ : ∃ g, f = g + 1 := ⟨f - 1, by omega⟩
    have lb := lOn_in h (8 * r + k)
    have e0 := ih (k + 1) f (by omega) (by omega)
    rw [show (((k + 1 : Nat) : Int)) = (k : Int) + 1 by omega] at e0
    rw [L_X9_judgeHall_31, fIx, x_cellAt (by omega) (by omega), if_pos ⟨hr, by omega⟩, bnd_some, x_lOn h T.a5 T.a6 T.a7 (by omega) (by omega)]
    unfold F_X6_refuse hallP at *
    by_cases e : 0 ≤ lOn σ (8 * r + k)
    · rw [if_pos (decide_eq_true e), if_neg (show ¬ (k : Int) = -1 by omega)]
      simp (disch := omega) only [brn_if, grd_if, ↓bnd_some, bnd_some, bnd_if, bnd_none, J_at, I_add, I_sub, I_mul, I_neg, lit_0, lit_1, lit_2, lit_3, lit_4, lit_5, lit_6, lit_7, lit_8, lit_9, lit_10, lit_11, lit_12, lit_13, lit_14, lit_20, lit_23, lit_24, lit_32, lit_33, lit_35, lit_40, lit_43, lit_45, lit_46, lit_47, lit_48, lit_49, lit_50, lit_57, lit_58, lit_59, lit_60, lit_61, lit_63, lit_64, lit_77, lit_95, lit_98, lit_99, lit_101, lit_104, lit_111, lit_112, lit_114, lit_116, lit_122, lit_127, lit_139, lit_147, lit_180, lit_255, lit_1000, lit_1029, I_lt, I_le, I_eq, I_cl, I_inb, if_pos, if_neg, eq_self, Bool.false_eq_true, ite_true, ite_false, Int.zero_add, Int.add_zero]
    · have e9 : ¬ (decide (0 ≤ lOn σ (8 * r + k)) = true) := by rw [decide_eq_false e]; simp
      rw [if_neg e9]
      rw [brn_neg _ _ (by rw [I_lt (by omega) (by omega) (by omega) (by omega)]; omega), bnd_some, brn_pos _ _ (by rw [m1, I_eq (by omega) (by omega) (by omega) (by omega)]; omega), lit_1, I_add]
      exact e0
theorem m_hallL (h : WF b σ) {r l : Int} (hr : 0 ≤ r ∧ r ≤ 7) (hl : l ≤ 7) (p2 mi : Int32) : ∀ (m k f : Nat), (k : Int) + m = l + 1 → m < f → L_X12_doHall_42 (I r) p2 (I l) f (I (σ 3)) (I k) 0 mr md mi (J σ) = if fIx (hallP σ r) m k = -1 then (if σ 3 < 4 then some (I (σ 3), I 0, mr, md, mi, J (U (U (U (U σ (127 + 3 * σ 3).toNat r) (127 + 3 * σ 3 + 1).toNat p2.toInt) (127 + 3 * σ 3 + 2).toNat l) 3 (σ 3 + 1))) else some (I 0, I 2, I 1, I 4, I 1, J σ)) else some (I 0, I 2, I 4, I (8 * r + fIx (hallP σ r) m k), I 1, J σ) := by
  have hn := h.m
  intro m
  induction m with
  | zero =>
    intro k f hk hf
    obtain ⟨f, rfl⟩ : ∃ g, f = g + 1 := ⟨f - 1, by omega⟩
    rw [L_X12_doHall_42, fIx, if_pos rfl]
    unfold F_X12_refuse
    by_cases e : σ 3 < 4
    · rw [if_pos e]
      obtain ⟨q, hq, rfl⟩ := I_ex p2
      rw [I_toInt hq.1 hq.2]
      simp (disch := omega) only [brn_if, grd_if, ↓bnd_some, bnd_some, bnd_if, bnd_none, J_at, I_add, I_sub, I_mul, I_neg, lit_0, lit_1, lit_2, lit_3, lit_4, lit_5, lit_6, lit_7, lit_8, lit_9, lit_10, lit_11, lit_12, lit_13, lit_14, lit_20, lit_23, lit_24, lit_32, lit_33, lit_35, lit_40, lit_43, lit_45, lit_46, lit_47, lit_48, lit_49, lit_50, lit_57, lit_58, lit_59, lit_60, lit_61, lit_63, lit_64, lit_77, lit_95, lit_98, lit_99, lit_101, lit_104, lit_111, lit_112, lit_114, lit_116, lit_122, lit_127, lit_139, lit_147, lit_180, lit_255, lit_1000, lit_1029, I_lt, I_le, I_eq, I_cl, I_inb, if_pos, if_neg, eq_self, Bool.false_eq_true, ite_true, ite_false, Int.zero_add, Int.add_zero, tn_0, J_upd, U_ne]
    · rw [if_neg e]
      simp (disch := omega) only [brn_if, grd_if, ↓bnd_some, bnd_some, bnd_if, bnd_none, J_at, I_add, I_sub, I_mul, I_neg, lit_0, lit_1, lit_2, lit_3, lit_4, lit_5, lit_6, lit_7, lit_8, lit_9, lit_10, lit_11, lit_12, lit_13, lit_14, lit_20, lit_23, lit_24, lit_32, lit_33, lit_35, lit_40, lit_43, lit_45, lit_46, lit_47, lit_48, lit_49, lit_50, lit_57, lit_58, lit_59, lit_60, lit_61, lit_63, lit_64, lit_77, lit_95, lit_98, lit_99, lit_101, lit_104, lit_111, lit_112, lit_114, lit_116, lit_122, lit_127, lit_139, lit_147, lit_180, lit_255, lit_1000, lit_1029, I_lt, I_le, I_eq, I_cl, I_inb, if_pos, if_neg, eq_self, Bool.false_eq_true, ite_true, ite_false, Int.zero_add, Int.add_zero]
  | succ m ih =>
    intro k f hk hf
    obtain ⟨f, rfl⟩ : ∃ g, f = g + 1 := ⟨f - 1, by omega⟩
    have lb := lOn_in h (8 * r + k)
    have e0 := ih (k + 1) f (by omega) (by omega)
    rw [show (((k + 1 : Nat) : Int)) = (k : Int) + 1 by omega] at e0
    have k1 : F_X12_hallOn (8 * I r + I k) (J σ) = some (I (lOn σ (8 * r + k))) := by rw [lit_8, I_mul, I_add, m_hallOn h (by omega) (by omega)]
    have k2 : 8 * I r + I k = I (8 * r + k) := by rw [lit_8, I_mul, I_add]
    rw [L_X12_doHall_42, fIx, k1]
    unfold F_X12_refuse hallP at *
    by_cases e : 0 ≤ lOn σ (8 * r + k)
    · rw [if_pos (decide_eq_true e), if_neg (show ¬ (k : Int) = -1 by omega), k2]
      simp (disch := omega) only [brn_if, grd_if, ↓bnd_some, bnd_some, bnd_if, bnd_none, J_at, I_add, I_sub, I_mul, I_neg, lit_0, lit_1, lit_2, lit_3, lit_4, lit_5, lit_6, lit_7, lit_8, lit_9, lit_10, lit_11, lit_12, lit_13, lit_14, lit_20, lit_23, lit_24, lit_32, lit_33, lit_35, lit_40, lit_43, lit_45, lit_46, lit_47, lit_48, lit_49, lit_50, lit_57, lit_58, lit_59, lit_60, lit_61, lit_63, lit_64, lit_77, lit_95, lit_98, lit_99, lit_101, lit_104, lit_111, lit_112, lit_114, lit_116, lit_122, lit_127, lit_139, lit_147, lit_180, lit_255, lit_1000, lit_1029, I_lt, I_le, I_eq, I_cl, I_inb, if_pos, if_neg, eq_self, Bool.false_eq_true, ite_true, ite_false, Int.zero_add, Int.add_zero]
    · have e9 : ¬ (decide (0 ≤ lOn σ (8 * r + k)) = true) := by rw [decide_eq_false e]; simp
      rw [if_neg e9]
      rw [brn_neg _ _ (by rw [I_lt (by omega) (by omega) (by omega) (by omega)]; omega), bnd_some, brn_pos _ _ (by rw [lit_0, I_lt (by omega) (by omega) (by omega) (by omega)]; omega), lit_1, I_add]
      exact e0
theorem j_hall (h : WF b σ) (T : TR σ v) {r f l : Int} (ha : InR r) (hf : InR f) (hl : InR l) (hq : RQ rn rd mr md) (mi : Int32) :
    JB [(2, 1), (3, 2)] mi σ (F_X9_judgeHall (I r) (I f) (I l) (I (σ 3)) (v.2 5) (v.2 6) (v.2 7) rn rd) (F_X12_doHall (I r) (I f) (I l) 0 mr md mi (J σ)) ∨
    (F_X9_judgeHall (I r) (I f) (I l) (I (σ 3)) (v.2 5) (v.2 6) (v.2 7) rn rd = some (I 0, rn, rd) ∧ F_X12_doHall (I r) (I f) (I l) 0 mr md mi (J σ) = some (I (σ 3), I 0, mr, md, mi, J (hallS σ r f l)) ∧ (0 ≤ r ∧ r ≤ 7) ∧ (0 ≤ f ∧ f ≤ l ∧ l ≤ 7) ∧ (∀ c : Int, f ≤ c → c ≤ l → lOn σ (8 * r + c) < 0) ∧ σ 3 < 4) := by
  have hn := h.m
  have c3 : (3 : Int32).toNatClampNeg = 3 := by decide
  by_cases e1 : 0 ≤ r ∧ r ≤ 7
  · by_cases e2 : 0 ≤ f ∧ f ≤ l
    · by_cases e3 : l ≤ 7
      · obtain ⟨k, rfl⟩ := Int.eq_ofNat_of_zero_le e2.1
        have gx := x_hallL (v := v) (rn := rn) (rd := rd) h T e1 e3 (I k) (l + 1 - k).toNat k 100 (by omega) (by omega)
        have gm := m_hallL (mr := mr) (md := md) h e1 e3 (I k) mi (l + 1 - k).toNat k 100 (by omega) (by omega)
        have hx : F_X9_judgeHall (I r) (I k) (I l) (I (σ 3)) (v.2 5) (v.2 6) (v.2 7) rn rd = L_X9_judgeHall_31 (I r) (I k) (I l) (I (σ 3)) (v.2 5) (v.2 6) (v.2 7) 100 (I k) rn rd := by
          unfold F_X9_judgeHall
          rw [x_lane_p ha e1, bnd_some, brn_neg _ _ (by decide), x_lane_p hf (by omega), bnd_some, brn_neg _ _ (by decide), x_lane_p hl (by omega), bnd_some, brn_neg _ _ (by decide), brn_pos _ _ (by rw [I_le (by omega) (by omega) (by omega) (by omega)]; omega)]
        have hm : F_X12_doHall (I r) (I k) (I l) 0 mr md mi (J σ) = L_X12_doHall_42 (I r) (I k) (I l) 100 (I (σ 3)) (I k) 0 mr md mi (J σ) := by
          unfold F_X12_doHall
          rw [grd_pos _ (by decide), m_w7_p ha e1, bnd_some, brn_neg _ _ (by decide), show F_X12_in (I k) 0 (I l) = some (I 1) from (by rw [lit_0]; exact I_min hf (by omega) hl (by omega)), bnd_some, brn_neg _ _ (by decide), brn_pos _ _ (by rw [lit_8, I_lt (by omega) (by omega) (by omega) (by omega)]; omega), c3, J_at]
        rw [hx, hm, gx, gm]
        by_cases e4 : fIx (hallP σ r) (l + 1 - k).toNat k = -1
        · rw [if_pos e4, if_pos e4]
          by_cases e5 : σ 3 < 4
          · rw [if_pos e5, if_pos e5, I_toInt (by omega) (by omega)]
            refine Or.inr ⟨rfl, rfl, e1, ⟨e2.1, e2.2, e3⟩, fun c h1 h2 => ?_, e5⟩
            rcases fIx_sp (hallP σ r) (l + 1 - k).toNat k with ⟨-, g⟩ | ⟨i, g1, g2, g3, g4, g5⟩
            · obtain ⟨c, rfl⟩ := Int.eq_ofNat_of_zero_le (show 0 ≤ c by omega)
              have := of_decide_eq_false (g c (by omega) (by omega))
              omega
            · omega
          · rw [if_neg e5, if_neg e5]
            exact Or.inl ⟨3, 2, I 1, I 4, I 1, I 4, I 1, by decide, rfl, rfl, RQ_new (by omega) (by omega), Or.inl ⟨rfl, rfl⟩⟩
        · rw [if_neg e4, if_neg e4]
          exact Or.inl ⟨3, 2, I 4, _, I 4, _, I 1, by decide, rfl, rfl, RQ_new (by omega) (by omega), Or.inl ⟨rfl, rfl⟩⟩
      · refine Or.inl ⟨2, 1, rn, rd, mr, md, mi, by decide, ?_, ?_, hq, Or.inr ⟨by decide, rfl⟩⟩
        · unfold F_X9_judgeHall
          by_cases e4 : 0 ≤ f ∧ f ≤ 7
          · rw [x_lane_p ha e1, bnd_some, brn_neg _ _ (by decide), x_lane_p hf e4, bnd_some, brn_neg _ _ (by decide), x_lane_n hl (by omega), bnd_some, brn_pos _ _ (by decide)]
            rfl
          · rw [x_lane_p ha e1, bnd_some, brn_neg _ _ (by decide), x_lane_n hf e4, bnd_some, brn_pos _ _ (by decide)]
            rfl
        · unfold F_X12_doHall J_X12_doHall_33
          rw [grd_pos _ (by decide), m_w7_p ha e1, bnd_some, brn_neg _ _ (by decide), show F_X12_in (I f) 0 (I l) = some (I 1) from (by rw [lit_0]; exact I_min hf (by omega) hl (by omega)), bnd_some, brn_neg _ _ (by decide), brn_neg _ _ (by rw [lit_8, I_lt (by omega) (by omega) (by omega) (by omega)]; omega)]
          rfl
    · refine Or.inl ⟨2, 1, rn, rd, mr, md, mi, by decide, ?_, ?_, hq, Or.inr ⟨by decide, rfl⟩⟩
      · unfold F_X9_judgeHall
        by_cases e4 : 0 ≤ f ∧ f ≤ 7
        · by_cases e5 : 0 ≤ l ∧ l ≤ 7
          · rw [x_lane_p ha e1, bnd_some, brn_neg _ _ (by decide), x_lane_p hf e4, bnd_some, brn_neg _ _ (by decide), x_lane_p hl e5, bnd_some, brn_neg _ _ (by decide), brn_neg _ _ (by rw [I_le (by omega) (by omega) (by omega) (by omega)]; omega)]
            rfl
          · rw [x_lane_p ha e1, bnd_some, brn_neg _ _ (by decide), x_lane_p hf e4, bnd_some, brn_neg _ _ (by decide), x_lane_n hl e5, bnd_some, brn_pos _ _ (by decide)]
            rfl
        · rw [x_lane_p ha e1, bnd_some, brn_neg _ _ (by decide), x_lane_n hf e4, bnd_some, brn_pos _ _ (by decide)]
          rfl
      · unfold F_X12_doHall J_X12_doHall_33
        rw [grd_pos _ (by decide), m_w7_p ha e1, bnd_some, brn_neg _ _ (by decide), show F_X12_in (I f) 0 (I l) = some (I 0) from (by rw [lit_0]; exact I_mout hf (by omega) hl e2), bnd_some, brn_pos _ _ (by decide)]
        rfl
  · refine Or.inl ⟨2, 1, rn, rd, mr, md, mi, by decide, ?_, ?_, hq, Or.inr ⟨by decide, rfl⟩⟩
    · unfold F_X9_judgeHall
      rw [x_lane_n ha e1, bnd_some, brn_pos _ _ (by decide)]
      rfl
    · unfold F_X12_doHall J_X12_doHall_33
      rw [grd_pos _ (by decide), m_w7_n ha e1, bnd_some, brn_pos _ _ (by decide)]
      rfl
theorem d_hall_x (h : WF b σ) {r f l : Int} (r5 r6 r7 : Nat → Int32) (e6 : σ 3 < 4) : F_X1_add (I r) (I f) (I l) (I (σ 3)) r5 r6 r7 = some (I (σ 3), I (σ 3 + 1), upd r5 (σ 3).toNat (I r), upd r6 (σ 3).toNat (I f), upd r7 (σ 3).toNat (I l)) := by
  have hn := h.m
  obtain ⟨n, e⟩ := Int.eq_ofNat_of_zero_le hn.1
  unfold F_X1_add
  rw [e]
  have p := fun (r : Nat → Int32) (z : Int32) => x_put (N := 4) (by decide) (a := r) (i := n) (by omega) z
  rw [p, bnd_some, p, bnd_some, p, bnd_some, lit_1, I_add]
  rfl
theorem d_hall_w (h : WF b σ) (T : TR σ v) {r f l : Int} (e1 : 0 ≤ r ∧ r ≤ 7) (e2 : 0 ≤ f ∧ f ≤ l ∧ l ≤ 7) (e5 : ∀ c : Int, f ≤ c → c ≤ l → lOn σ (8 * r + c) < 0) (e6 : σ 3 < 4) :
    WF b (hallS σ r f l) ∧ TR (hallS σ r f l) (tvMk (v.1 0) (v.1 1) (v.1 2) (v.1 3) (v.1 4) (v.1 5) (v.1 6) (I (σ 3 + 1)) (v.1 8) (v.2 0) (v.2 1) (v.2 2) (v.2 3) (v.2 4) (upd (v.2 5) (σ 3).toNat (I r)) (upd (v.2 6) (σ 3).toNat (I f)) (upd (v.2 7) (σ 3).toNat (I l)) (v.2 8) (v.2 9) (v.2 10) (v.2 11)) := by
  have hn := h.m
  have he : ∀ k : Nat, k < 147 → (k ≠ 3 ∧ ¬ (127 ≤ k ∧ k < 139)) → hallS σ r f l k = σ k := by
    intro k h1 h2
    unfold hallS
    simp (disch := omega) only [U_ne]
  have h2 : hallS σ r f l 3 = σ 3 + 1 := by unfold hallS; exact U_same _ _ _
  have hO : ∀ i : Nat, (i : Int) < σ 3 → hallS σ r f l (127 + 3 * i) = σ (127 + 3 * i) ∧ hallS σ r f l (128 + 3 * i) = σ (128 + 3 * i) ∧ hallS σ r f l (129 + 3 * i) = σ (129 + 3 * i) := by
    intro i hi
    unfold hallS
    simp (disch := omega) only [U_ne, and_self]
  have hN : ∀ i : Nat, (i : Int) = σ 3 → hallS σ r f l (127 + 3 * i) = r ∧ hallS σ r f l (128 + 3 * i) = f ∧ hallS σ r f l (129 + 3 * i) = l := by
    intro i hi
    unfold hallS
    simp (disch := omega) only [U, if_pos, if_neg, and_self]
  have nw : ∀ i : Nat, (i : Int) < σ 3 → σ (127 + 3 * i) = r → σ (129 + 3 * i) < f ∨ l < σ (128 + 3 * i) := by
    intro i hi hr
    have hh := h.hall hi
    refine Classical.byContradiction (fun hc => ?_)
    have hcc : f ≤ σ (129 + 3 * i) ∧ σ (128 + 3 * i) ≤ l := by omega
    obtain ⟨c, c1, c2, c3, c4⟩ : ∃ c : Int, f ≤ c ∧ c ≤ l ∧ σ (128 + 3 * i) ≤ c ∧ c ≤ σ (129 + 3 * i) := by
      by_cases q : f ≤ σ (128 + 3 * i)
      · exact ⟨σ (128 + 3 * i), q, hcc.2, by omega, by omega⟩
      · exact ⟨f, by omega, e2.2.1, by omega, hcc.1⟩
    have hlo := e5 c c1 c2
    have d1 : (8 * r + c) / 8 = r := by omega
    have d2 : md (8 * r + c) 8 = c := by unfold md; omega
    rcases lIx_sp (inL σ (8 * r + c)) (σ 3).toNat 0 (-1) with ⟨-, g2⟩ | ⟨j, g1, g2, g3, g4⟩
    · have := g2 i (by omega) (by omega)
      unfold inL at this
      rw [d1, d2, decide_eq_true hr.symm, decide_eq_true c3, decide_eq_true c4] at this
      cases this
    · have : lOn σ (8 * r + c) = j := g4
      omega
  refine ⟨WF_hall h ?_ he (by rw [h2]; omega) ?_ ?_, TR_hall h T he (by rw [h2]) ?_ ?_ ?_⟩
  · exact U_r (U_r (U_r (U_r h.r (by omega)) (by omega)) (by omega)) (by omega)
  · intro i hi
    rw [h2] at hi
    by_cases e : (i : Int) = σ 3
    · obtain ⟨q1, q2, q3⟩ := hN i e
      rw [q1, q2, q3]
      exact ⟨e1, by omega, by omega, by omega⟩
    · obtain ⟨q1, q2, q3⟩ := hO i (by omega)
      rw [q1, q2, q3]
      exact h.hall (by omega)
  · intro i j hi hj
    rw [h2] at hi hj
    by_cases e : (i : Int) = σ 3
    · by_cases e' : (j : Int) = σ 3
      · intro ne; omega
      · obtain ⟨q1, q2, q3⟩ := hN i e
        obtain ⟨t1, t2, t3⟩ := hO j (by omega)
        rw [q1, q2, q3, t1, t2, t3]
        intro _ q
        have := nw j (by omega) q.symm
        omega
    · by_cases e' : (j : Int) = σ 3
      · obtain ⟨q1, q2, q3⟩ := hO i (by omega)
        obtain ⟨t1, t2, t3⟩ := hN j e'
        rw [q1, q2, q3, t1, t2, t3]
        intro _ q
        exact nw i (by omega) q
      · obtain ⟨q1, q2, q3⟩ := hO i (by omega)
        obtain ⟨t1, t2, t3⟩ := hO j (by omega)
        rw [q1, q2, q3, t1, t2, t3]
        exact h.apart (by omega) (by omega)
  · rw [h2]; exact AR_app T.a5 hn.1 (fun i hi => (hO i hi).1) (hN _ (by omega)).1
  · rw [h2]; exact AR_app T.a6 hn.1 (fun i hi => (hO i hi).2.1) (hN _ (by omega)).2.1
  · rw [h2]; exact AR_app T.a7 hn.1 (fun i hi => (hO i hi).2.2) (hN _ (by omega)).2.2
def tellS (σ : Nat → Int) (p t : Int) : Nat → Int := U σ (139 + 2 * p + 1).toNat t
theorem d_tell_w (h : WF b σ) (T : TR σ v) {p : Nat} (hp : (p : Int) < σ 4) {t : Int} (ht : 0 ≤ t ∧ t ≤ 14) :
    WF b (tellS σ p t) ∧ TR (tellS σ p t) (tvMk (v.1 0) (v.1 1) (v.1 2) (v.1 3) (v.1 4) (v.1 5) (v.1 6) (v.1 7) (v.1 8) (v.2 0) (v.2 1) (v.2 2) (v.2 3) (v.2 4) (v.2 5) (v.2 6) (v.2 7) (v.2 8) (upd (v.2 9) p (I t)) (v.2 10) (v.2 11)) := by
  have hn := h.q
  have he : ∀ k : Nat, k < 147 → (k ≠ 4 ∧ ¬ (139 ≤ k ∧ k < 147)) → tellS σ p t k = σ k := by
    intro k h1 h2
    unfold tellS
    exact U_ne _ _ (by omega)
  have h2 : tellS σ p t 4 = σ 4 := by unfold tellS; exact U_ne _ _ (by omega)
  have hC : ∀ i : Nat, tellS σ p t (139 + 2 * i) = σ (139 + 2 * i) := by
    intro i
    unfold tellS
    exact U_ne _ _ (by omega)
  have hT : ∀ i : Nat, tellS σ p t (140 + 2 * i) = if i = p then t else σ (140 + 2 * i) := by
    intro i
    unfold tellS U
    by_cases e : i = p
    · rw [if_pos e, if_pos (by omega)]
    · rw [if_neg e, if_neg (by omega)]
  have T9 := T.1.2.2.2.2.2.2.2.2
  refine ⟨WF_post h ?_ he (by rw [h2]; omega) ?_ ?_, TR_post h T he (by rw [h2]; exact T9) ?_ ?_⟩
  · exact U_r h.r (by omega)
  · intro i hi
    rw [h2] at hi
    have := h.post hi
    rw [hC, hT]
    refine ⟨this.1, ?_⟩
    split
    · omega
    · exact this.2
  · intro i j hi hj
    rw [h2] at hi hj
    rw [hC, hC]
    exact h.oneP hi hj
  · rw [h2]; exact AR_cong T.a8 (by omega) (fun i hi => (hC i).symm)
  · rw [h2]; exact AR_put T.a9 (fun i hi => hT i)
theorem j_tell (h : WF b σ) (T : TR σ v) {p t : Int} (hp : InR p) (ht : InR t) (hq : RQ rn rd mr md) (mi : Int32) :
    JB [(1, 1), (2, 2), (3, 3)] mi σ (F_X9_judgeTell (I p) (I t) (I (σ 8 - 1)) (I (σ 4)) (v.2 9) (v.2 11) rn rd) (F_X12_doTell (I p) (I t) 0 mr md mi (J σ)) ∨
    (F_X9_judgeTell (I p) (I t) (I (σ 8 - 1)) (I (σ 4)) (v.2 9) (v.2 11) rn rd = some (I 0, rn, rd) ∧ (0 ≤ p ∧ p < σ 4) ∧ (0 ≤ t ∧ t ≤ 14) ∧ F_X12_doTell (I p) (I t) 0 mr md mi (J σ) = some (I (canN (tellS σ p t)), I 0, mr, md, mi, J (tellS σ p t))) := by
  have hn := h.q
  have hl := h.look
  have lit14x : F_X11_isWithin (I t) 0 14 = F_X11_isWithin (I t) (I 0) (I 14) := by rw [lit_0, lit_14]
  have lit14m : F_X12_in (I t) 0 14 = F_X12_in (I t) (I 0) (I 14) := by rw [lit_0, lit_14]
  unfold F_X9_judgeTell F_X12_doTell J_X12_doTell_18 J_X12_doTell_32 F_X12_fails F_X9_hasPrank F_X6_refuse F_X12_refuse
  by_cases e1 : 0 ≤ p ∧ p < σ 4
  · rw [x5_has_p hp (by omega) e1, m_isPost_p h hp e1]
    by_cases e2 : 0 ≤ t ∧ t ≤ 14
    · obtain ⟨i, rfl⟩ := Int.eq_ofNat_of_zero_le e1.1
      rw [lit14x, I_in ht (by omega) (by omega) e2, lit14m, I_min ht (by omega) (by omega) e2]
      by_cases e3 : σ 8 = 0
      · refine Or.inl ⟨3, 3, I 5, I (σ 12), I 5, I (σ 12), I 1, by decide, ?_, ?_, RQ_new (by omega) (by omega), Or.inl ⟨rfl, rfl⟩⟩
        · have k3 : F_X9_countKind 3 (v.2 11) = some (I (σ 12)) := by
            unfold F_X9_countKind
            rw [lit_3, show (3 : Int) = ((3 : Nat) : Int) from rfl, x_at4 T.a11 (i := 3) (by omega) (by omega), bnd_some]
          rw [k3]
          simp (disch := omega) only [brn_if, grd_if, ↓bnd_some, bnd_some, bnd_if, bnd_none, J_at, I_add, I_sub, I_mul, I_neg, lit_0, lit_1, lit_2, lit_3, lit_4, lit_5, lit_6, lit_7, lit_8, lit_9, lit_10, lit_11, lit_12, lit_13, lit_14, lit_20, lit_23, lit_24, lit_32, lit_33, lit_35, lit_40, lit_43, lit_45, lit_46, lit_47, lit_48, lit_49, lit_50, lit_57, lit_58, lit_59, lit_60, lit_61, lit_63, lit_64, lit_77, lit_95, lit_98, lit_99, lit_101, lit_104, lit_111, lit_112, lit_114, lit_116, lit_122, lit_127, lit_139, lit_147, lit_180, lit_255, lit_1000, lit_1029, I_lt, I_le, I_eq, I_cl, I_inb, if_pos, if_neg, eq_self, Bool.false_eq_true, ite_true, ite_false, Int.zero_add, Int.add_zero, m1]
        · simp (disch := omega) only [brn_if, grd_if, ↓bnd_some, bnd_some, bnd_if, bnd_none, J_at, I_add, I_sub, I_mul, I_neg, lit_0, lit_1, lit_2, lit_3, lit_4, lit_5, lit_6, lit_7, lit_8, lit_9, lit_10, lit_11, lit_12, lit_13, lit_14, lit_20, lit_23, lit_24, lit_32, lit_33, lit_35, lit_40, lit_43, lit_45, lit_46, lit_47, lit_48, lit_49, lit_50, lit_57, lit_58, lit_59, lit_60, lit_61, lit_63, lit_64, lit_77, lit_95, lit_98, lit_99, lit_101, lit_104, lit_111, lit_112, lit_114, lit_116, lit_122, lit_127, lit_139, lit_147, lit_180, lit_255, lit_1000, lit_1029, I_lt, I_le, I_eq, I_cl, I_inb, if_pos, if_neg, eq_self, Bool.false_eq_true, ite_true, ite_false, Int.zero_add, Int.add_zero, tn_0, show (12 : Int).toNat = 12 from rfl]
      · have hpo := h.post (j := i) e1.2
        have kt := x_told h T.a9 (j := i) e1.2
        have ei : (139 + 2 * (i : Int) + 1).toNat = 140 + 2 * i := by omega
        by_cases e4 : σ (140 + 2 * i) = t
        · refine Or.inl ⟨3, 3, I 6, I t, I 6, I t, I 1, by decide, ?_, ?_, RQ_new (by omega) (by omega), Or.inl ⟨rfl, rfl⟩⟩
          · rw [kt]
            simp (disch := omega) only [brn_if, grd_if, ↓bnd_some, bnd_some, bnd_if, bnd_none, J_at, I_add, I_sub, I_mul, I_neg, lit_0, lit_1, lit_2, lit_3, lit_4, lit_5, lit_6, lit_7, lit_8, lit_9, lit_10, lit_11, lit_12, lit_13, lit_14, lit_20, lit_23, lit_24, lit_32, lit_33, lit_35, lit_40, lit_43, lit_45, lit_46, lit_47, lit_48, lit_49, lit_50, lit_57, lit_58, lit_59, lit_60, lit_61, lit_63, lit_64, lit_77, lit_95, lit_98, lit_99, lit_101, lit_104, lit_111, lit_112, lit_114, lit_116, lit_122, lit_127, lit_139, lit_147, lit_180, lit_255, lit_1000, lit_1029, I_lt, I_le, I_eq, I_cl, I_inb, if_pos, if_neg, eq_self, Bool.false_eq_true, ite_true, ite_false, Int.zero_add, Int.add_zero, m1]
          · simp (disch := omega) only [brn_if, grd_if, ↓bnd_some, bnd_some, bnd_if, bnd_none, J_at, I_add, I_sub, I_mul, I_neg, lit_0, lit_1, lit_2, lit_3, lit_4, lit_5, lit_6, lit_7, lit_8, lit_9, lit_10, lit_11, lit_12, lit_13, lit_14, lit_20, lit_23, lit_24, lit_32, lit_33, lit_35, lit_40, lit_43, lit_45, lit_46, lit_47, lit_48, lit_49, lit_50, lit_57, lit_58, lit_59, lit_60, lit_61, lit_63, lit_64, lit_77, lit_95, lit_98, lit_99, lit_101, lit_104, lit_111, lit_112, lit_114, lit_116, lit_122, lit_127, lit_139, lit_147, lit_180, lit_255, lit_1000, lit_1029, I_lt, I_le, I_eq, I_cl, I_inb, if_pos, if_neg, eq_self, Bool.false_eq_true, ite_true, ite_false, Int.zero_add, Int.add_zero, tn_0, ei]
        · refine Or.inr ⟨?_, e1, e2, ?_⟩
          · rw [kt]
            simp (disch := omega) only [brn_if, grd_if, ↓bnd_some, bnd_some, bnd_if, bnd_none, J_at, I_add, I_sub, I_mul, I_neg, lit_0, lit_1, lit_2, lit_3, lit_4, lit_5, lit_6, lit_7, lit_8, lit_9, lit_10, lit_11, lit_12, lit_13, lit_14, lit_20, lit_23, lit_24, lit_32, lit_33, lit_35, lit_40, lit_43, lit_45, lit_46, lit_47, lit_48, lit_49, lit_50, lit_57, lit_58, lit_59, lit_60, lit_61, lit_63, lit_64, lit_77, lit_95, lit_98, lit_99, lit_101, lit_104, lit_111, lit_112, lit_114, lit_116, lit_122, lit_127, lit_139, lit_147, lit_180, lit_255, lit_1000, lit_1029, I_lt, I_le, I_eq, I_cl, I_inb, if_pos, if_neg, eq_self, Bool.false_eq_true, ite_true, ite_false, Int.zero_add, Int.add_zero, m1]
          · have w1 := (d_tell_w (v := v) h T e1.2 e2).1
            have k5 := m_canBeMany w1
            unfold tellS at k5 ⊢
            rw [ei] at k5 ⊢
            simp (disch := omega) only [brn_if, grd_if, ↓bnd_some, bnd_some, bnd_if, bnd_none, J_at, I_add, I_sub, I_mul, I_neg, lit_0, lit_1, lit_2, lit_3, lit_4, lit_5, lit_6, lit_7, lit_8, lit_9, lit_10, lit_11, lit_12, lit_13, lit_14, lit_20, lit_23, lit_24, lit_32, lit_33, lit_35, lit_40, lit_43, lit_45, lit_46, lit_47, lit_48, lit_49, lit_50, lit_57, lit_58, lit_59, lit_60, lit_61, lit_63, lit_64, lit_77, lit_95, lit_98, lit_99, lit_101, lit_104, lit_111, lit_112, lit_114, lit_116, lit_122, lit_127, lit_139, lit_147, lit_180, lit_255, lit_1000, lit_1029, I_lt, I_le, I_eq, I_cl, I_inb, if_pos, if_neg, eq_self, Bool.false_eq_true, ite_true, ite_false, Int.zero_add, Int.add_zero, tn_0, ei, J_upd, k5]
    · refine Or.inl ⟨2, 2, rn, rd, mr, md, mi, by decide, ?_, ?_, hq, Or.inr ⟨by decide, rfl⟩⟩
      · rw [lit14x, I_out ht (by omega) (by omega) e2]
        simp (disch := omega) only [brn_if, grd_if, ↓bnd_some, bnd_some, bnd_if, bnd_none, J_at, I_add, I_sub, I_mul, I_neg, lit_0, lit_1, lit_2, lit_3, lit_4, lit_5, lit_6, lit_7, lit_8, lit_9, lit_10, lit_11, lit_12, lit_13, lit_14, lit_20, lit_23, lit_24, lit_32, lit_33, lit_35, lit_40, lit_43, lit_45, lit_46, lit_47, lit_48, lit_49, lit_50, lit_57, lit_58, lit_59, lit_60, lit_61, lit_63, lit_64, lit_77, lit_95, lit_98, lit_99, lit_101, lit_104, lit_111, lit_112, lit_114, lit_116, lit_122, lit_127, lit_139, lit_147, lit_180, lit_255, lit_1000, lit_1029, I_lt, I_le, I_eq, I_cl, I_inb, if_pos, if_neg, eq_self, Bool.false_eq_true, ite_true, ite_false, Int.zero_add, Int.add_zero]
      · rw [bnd_some, brn_neg _ _ (by decide), lit14m, I_mout ht (by omega) (by omega) e2, bnd_some, brn_pos _ _ (by decide), bnd_some, brn_neg _ _ (by decide)]
        rfl
  · refine Or.inl ⟨1, 1, rn, rd, mr, md, mi, by decide, ?_, ?_, hq, Or.inr ⟨by decide, rfl⟩⟩
    · rw [x5_has_n hp (by omega) e1]
      simp (disch := omega) only [brn_if, grd_if, ↓bnd_some, bnd_some, bnd_if, bnd_none, J_at, I_add, I_sub, I_mul, I_neg, lit_0, lit_1, lit_2, lit_3, lit_4, lit_5, lit_6, lit_7, lit_8, lit_9, lit_10, lit_11, lit_12, lit_13, lit_14, lit_20, lit_23, lit_24, lit_32, lit_33, lit_35, lit_40, lit_43, lit_45, lit_46, lit_47, lit_48, lit_49, lit_50, lit_57, lit_58, lit_59, lit_60, lit_61, lit_63, lit_64, lit_77, lit_95, lit_98, lit_99, lit_101, lit_104, lit_111, lit_112, lit_114, lit_116, lit_122, lit_127, lit_139, lit_147, lit_180, lit_255, lit_1000, lit_1029, I_lt, I_le, I_eq, I_cl, I_inb, if_pos, if_neg, eq_self, Bool.false_eq_true, ite_true, ite_false, Int.zero_add, Int.add_zero]
    · rw [m_isPost_n h hp e1, bnd_some, brn_pos _ _ (by decide), bnd_some, brn_pos _ _ (by decide)]
      rfl
theorem d_tell_x {p : Nat} {n : Int} (hp : (p : Int) < n) (hn : n ≤ 4) (t : Int32) (r9 : Nat → Int32) : F_X5_setTold (I p) t r9 = some (upd r9 p t) := by
  unfold F_X5_setTold
  rw [x_put (N := 4) (by decide) (i := p) (by omega), bnd_some]
end M4
section OP4
variable {b : Int} {x : XVal} {y : MVal}
theorem op_hall (hR : Rel b x y) (hb : 0 ≤ b) (p1 p2 p3 : Int32) : OPK [(0, 0), (2, 1), (3, 2)] b (G_hall p1 p2 p3 x) (H_hall p1 p2 p3 y) := by
  obtain ⟨σ, π, n, e, ⟨hw, hs, T⟩, hK, ⟨h28, h29, hm, hp, hP⟩, hQ, hO, hS⟩ := hR
  obtain ⟨a, ha, rfl⟩ := I_ex p1
  obtain ⟨f, hf, rfl⟩ := I_ex p2
  obtain ⟨g, hg, rfl⟩ := I_ex p3
  obtain ⟨β, -, hβ⟩ := J_ex (y.2 1)
  have h7 : x.1 8 = I (σ 3) := T.1.2.2.2.2.2.2.2.1
  have T2 : TR σ (tvMk (x.1 1) (x.1 2) (x.1 3) (x.1 4) (x.1 5) (x.1 6) (x.1 7) (I (σ 3)) (x.1 9) (x.2.1 0) (x.2.1 1) (x.2.1 2) (x.2.1 3) (x.2.1 4) (x.2.1 5) (x.2.1 6) (x.2.1 7) (x.2.1 8) (x.2.1 9) (x.2.1 10) (x.2.1 11)) := by rw [← h7]; exact T
  unfold G_hall H_hall F_X11_hall F_X12_hall
  rw [hs, hβ, hm, hp, m_keep, bnd_some, h7, h28, h29]
  have hj := j_hall (v := xT x) hw T ha hf hg hQ (y.1 5)
  rcases hj with ⟨c, t, rn, rd, mr, md, mi, hc, e1, e2, hq, -⟩ | ⟨e1, em, g1, g2, g5, g6⟩
  · have hcc : (c = 2 ∧ t = 1) ∨ (c = 3 ∧ t = 2) := by simpa using hc
    obtain ⟨d1, d2⟩ := x_dFi (c := c) (by omega)
    rw [show F_X9_judgeHall (I a) (I f) (I g) (I (σ 3)) (x.2.1 5) (x.2.1 6) (x.2.1 7) (x.1 30) (x.1 31) = _ from e1, e2]
    simp only [bnd_some]
    rw [d1, bnd_some, brn_neg _ _ d2, m_endsF (t := t) (by omega) (by omega), bnd_some, CP_self]
    refine ⟨c.toNat, _, _, _, _, t, ?_, rfl, rfl, rfl, fun q => absurd q d2, ?_⟩
    · rcases hcc with ⟨rfl, rfl⟩ | ⟨rfl, rfl⟩ <;> decide
    · exact ⟨σ, π, n, e, ⟨hw.mono (by omega), rfl, T2⟩, hK.mono (by omega), ⟨rfl, rfl, rfl, rfl, hP.mono (by omega)⟩, hq, hO, hS⟩
  · obtain ⟨w1, w2⟩ := d_hall_w (v := xT x) hw T g1 g2 g5 g6
    rw [show F_X9_judgeHall (I a) (I f) (I g) (I (σ 3)) (x.2.1 5) (x.2.1 6) (x.2.1 7) (x.1 30) (x.1 31) = _ from e1, em]
    simp only [bnd_some]
    rw [x_dFi0, bnd_some, brn_pos _ _ rfl]
    obtain ⟨pool', q1, q2⟩ := x_push T2 hw hP
    rw [q1, bnd_some, d_hall_x hw _ _ _ g6, bnd_some, show I 0 = (0 : Int32) from rfl, m_ends hP.1, bnd_some]
    exact ⟨0, _, _, _, _, 0, by decide, rfl, rfl, rfl, fun _ => rfl, ⟨_, _, _, _, ⟨w1.mono (by omega), rfl, w2⟩, hK.mono (by omega), ⟨rfl, rfl, rfl, rfl, q2.mono (by omega)⟩, hQ, hO, hS⟩⟩
theorem op_tell (hR : Rel b x y) (hb : 0 ≤ b) (p1 p2 : Int32) : OPK [(0, 0), (1, 1), (2, 2), (3, 3)] b (G_tell p1 p2 x) (H_tell p1 p2 y) := by
  obtain ⟨σ, π, n, e, ⟨hw, hs, T⟩, hK, ⟨h28, h29, hm, hp, hP⟩, hQ, hO, hS⟩ := hR
  obtain ⟨a, ha, rfl⟩ := I_ex p1
  obtain ⟨t, ht, rfl⟩ := I_ex p2
  obtain ⟨β, -, hβ⟩ := J_ex (y.2 1)
  have hq4 := hw.q
  have h3 : x.1 3 = I (σ 8 - 1) := T.1.2.2.1
  have h7 : x.1 9 = I (σ 4) := T.1.2.2.2.2.2.2.2.2
  have T2 : TR σ (tvMk (x.1 1) (x.1 2) (I (σ 8 - 1)) (x.1 4) (x.1 5) (x.1 6) (x.1 7) (x.1 8) (I (σ 4)) (x.2.1 0) (x.2.1 1) (x.2.1 2) (x.2.1 3) (x.2.1 4) (x.2.1 5) (x.2.1 6) (x.2.1 7) (x.2.1 8) (x.2.1 9) (x.2.1 10) (x.2.1 11)) := by rw [← h7, ← h3]; exact T
  unfold G_tell H_tell F_X11_tell F_X12_tell
  rw [hs, hβ, hm, hp, m_keep, bnd_some, h7, h3, h28, h29]
  have hj := j_tell (v := xT x) hw T ha ht hQ (y.1 5)
  rcases hj with ⟨c, u, rn, rd, mr, md, mi, hc, e1, e2, hq, -⟩ | ⟨e1, g1, g2, em⟩
  · have hcc : (c = 1 ∧ u = 1) ∨ (c = 2 ∧ u = 2) ∨ (c = 3 ∧ u = 3) := by simpa using hc
    obtain ⟨d1, d2⟩ := x_dFi (c := c) (by omega)
    rw [show F_X9_judgeTell (I a) (I t) (I (σ 8 - 1)) (I (σ 4)) (x.2.1 9) (x.2.1 11) (x.1 30) (x.1 31) = _ from e1, e2]
    simp only [bnd_some]
    rw [d1, bnd_some, brn_neg _ _ d2, m_endsF (t := u) (by omega) (by omega), bnd_some, CP_self]
    refine ⟨c.toNat, _, _, _, _, u, ?_, rfl, rfl, rfl, fun q => absurd q d2, ?_⟩
    · rcases hcc with ⟨rfl, rfl⟩ | ⟨rfl, rfl⟩ | ⟨rfl, rfl⟩ <;> decide
    · exact ⟨σ, π, n, e, ⟨hw.mono (by omega), rfl, T⟩, hK.mono (by omega), ⟨rfl, rfl, rfl, rfl, hP.mono (by omega)⟩, hq, hO, hS⟩
  · obtain ⟨p, rfl⟩ := Int.eq_ofNat_of_zero_le g1.1
    obtain ⟨w1, w2⟩ := d_tell_w (v := xT x) hw T g1.2 g2
    have kc := x_canN w1 (TR.a8 w2) (TR.a9 w2) (TR.a10 w2)
    have h4 : tellS σ p t 4 = σ 4 := by unfold tellS; exact U_ne _ _ (by omega)
    rw [h4] at kc
    rw [show F_X9_judgeTell (I p) (I t) (I (σ 8 - 1)) (I (σ 4)) (x.2.1 9) (x.2.1 11) (x.1 30) (x.1 31) = _ from e1, em]
    simp only [bnd_some]
    rw [x_dFi0, bnd_some, brn_pos _ _ rfl]
    obtain ⟨pool', q1, q2⟩ := x_push T2 hw hP
    rw [q1, bnd_some, d_tell_x g1.2 hq4.2, bnd_some, show F_X9_countFits (I (σ 4)) (x.2.1 8) (upd (x.2.1 9) p (I t)) (x.2.1 10) = _ from kc, bnd_some, show I 0 = (0 : Int32) from rfl, m_ends hP.1, bnd_some]
    exact ⟨0, _, _, _, _, 0, by decide, rfl, rfl, rfl, fun _ => rfl, ⟨_, _, _, _, ⟨w1.mono (by omega), rfl, w2⟩, hK.mono (by omega), ⟨rfl, rfl, rfl, rfl, q2.mono (by omega)⟩, hQ, hO, hS⟩⟩
end OP4
