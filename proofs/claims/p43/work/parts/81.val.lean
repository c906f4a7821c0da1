/-! ===== what the reading members answer, by the town's row ===== -/
theorem X_ok {g : Option (Nat × Int32)} {s : Nat × Int} (v : Int) (e : s = (0, v)) (h : g = some (0, I v)) : g = some (s.1, I s.2) := by rw [e]; exact h
theorem X_th {g : Option (Nat × Int32)} {s : Nat × Int} (k : Nat) (e : s = (k, 0)) (h : g = some (k, I 0)) : g = some (s.1, I s.2) := by rw [e]; exact h
def hV (σ : Nat → Int) (i f : Nat) : Int := match f with
  | 0 => σ (77 + 5 * i)
  | 1 => σ (78 + 5 * i)
  | 2 => σ (79 + 5 * i)
  | 3 => σ (80 + 5 * i)
  | 4 => σ (81 + 5 * i)
  | 5 => lOn σ (σ (77 + 5 * i))
  | 6 => if slB σ i (σ 0) = true then 1 else 0
  | _ => slN σ i
def aV (σ : Nat → Int) (pn on : Int) (k : Nat) : Int := match k with
  | 0 => σ 0
  | 1 => σ 1
  | 2 => σ 2
  | 3 => σ 3
  | 4 => σ 4
  | 5 => telN σ
  | 6 => blkN σ
  | 7 => σ 5
  | 8 => σ 6
  | 9 => σ 7
  | 10 => σ 8 - 1
  | 11 => on
  | _ => pn
def sp_houseOf (σ : Nat → Int) (a f : Int) : Nat × Int := if 0 ≤ a ∧ a < σ 2 then (if 0 ≤ f ∧ f ≤ 7 then (0, hV σ a.toNat f.toNat) else (2, 0)) else (1, 0)
def sp_rings (σ : Nat → Int) (a : Int) : Nat × Int := if 0 ≤ a ∧ a ≤ 3 then (0, σ (9 + a.toNat)) else (2, 0)
def sp_postOf (σ : Nat → Int) (a f : Int) : Nat × Int := if 0 ≤ a ∧ a < σ 4 then (if 0 ≤ f ∧ f ≤ 1 then (if f = 0 then (0, σ (139 + 2 * a.toNat)) else if σ (140 + 2 * a.toNat) = -1 then (4, 0) else (0, σ (140 + 2 * a.toNat))) else (2, 0)) else (1, 0)
def sp_apart (a f : Int) : Nat × Int := if 0 ≤ a ∧ a ≤ 63 then (if 0 ≤ f ∧ f ≤ 63 then (0, far a f) else (2, 0)) else (2, 0)
def sp_classOf (σ : Nat → Int) (a f x y : Int) : Nat × Int := if 0 ≤ a ∧ a < σ 2 then (if (0 ≤ x ∧ x ≤ 9) ∧ (0 ≤ y ∧ y ≤ 9) ∧ 0 < x + y then (if 0 ≤ f ∧ f ≤ 23 then (0, kd σ a.toNat f x y) else (2, 0)) else (2, 0)) else (1, 0)
def sp_echo (σ : Nat → Int) (a f x : Int) : Nat × Int := if 0 ≤ a ∧ a < σ 2 then (if 0 ≤ f ∧ f < σ 2 then (if 0 ≤ x ∧ x ≤ 9 then (if inH σ a.toNat f.toNat = true then (0, shA σ a.toNat f.toNat x) else (4, 0)) else (2, 0)) else (1, 0)) else (1, 0)
def sp_heard (σ : Nat → Int) (a x y : Int) : Nat × Int := if 0 ≤ a ∧ a < σ 2 then (if (0 ≤ x ∧ x ≤ 9) ∧ (0 ≤ y ∧ y ≤ 9) ∧ 0 < x + y then (0, 1 + hrN σ a.toNat x y) else (2, 0)) else (1, 0)
def sp_account (σ : Nat → Int) (a pn on : Int) : Nat × Int := if 0 ≤ a ∧ a ≤ 12 then (0, aV σ pn on a.toNat) else (2, 0)
def sp_fits (σ : Nat → Int) (a : Int) : Nat × Int := if 0 ≤ a ∧ a ≤ 63 then (if σ 8 = 0 then (4, 0) else (0, if canB σ a = true then 1 else 0)) else (2, 0)
def sp_asleep (σ : Nat → Int) (a : Int) : Nat × Int := if 0 ≤ a ∧ a ≤ 23 then (0, slC σ a) else (2, 0)
def sp_deepest (σ : Nat → Int) : Nat × Int := if slC σ (dpL σ 23 1 0) = 0 then (4, 0) else (0, dpL σ 23 1 0)
section VAL
variable {b : Int} {σ : Nat → Int} {v : TVal}

theorem v_houseOf (h : WF b σ) (T : TR σ v) {a f : Int} (ha : InR a) (hf : InR f) : F_X11_houseOf (I a) (I f) (v.1 0) (v.1 6) (v.2 0) (v.2 1) (v.2 2) (v.2 3) (v.2 4) (v.1 7) (v.2 5) (v.2 6) (v.2 7) = some ((sp_houseOf σ a f).1, I (sp_houseOf σ a f).2) := by
  have hn := h.n
  have hm := h.m
  have hh := h.hour
  rw [T.1.1, T.1.2.2.2.2.2.2.1, T.1.2.2.2.2.2.2.2.1]
  unfold F_X11_houseOf
  by_cases e1 : 0 ≤ a ∧ a < σ 2
  · by_cases e2 : 0 ≤ f ∧ f ≤ 7
    · obtain ⟨i, rfl⟩ := Int.eq_ofNat_of_zero_le e1.1
      have hi : (i : Int) < σ 2 := e1.2
      have hc := h.house hi
      rw [x_has_p ha (by omega) e1, x_w7_p hf e2]
      simp only [bnd_some, x_dLt, x_dPt]
      rcases (show f = 0 ∨ f = 1 ∨ f = 2 ∨ f = 3 ∨ f = 4 ∨ f = 5 ∨ f = 6 ∨ f = 7 by omega) with rfl | rfl | rfl | rfl | rfl | rfl | rfl | rfl
      · refine X_ok (σ (77 + 5 * i)) (by unfold sp_houseOf; (try simp only [Int.toNat_natCast]); rw [if_pos e1, if_pos e2]; try rfl) ?_
        · unfold F_X2_cellAt
          rw [x_at10 T.a0 hi hn.2]
          simp (disch := omega) only [brn_if, grd_if, ↓bnd_some, bnd_some, bnd_if, bnd_none, J_at, I_add, I_sub, I_mul, I_neg, lit_0, lit_1, lit_2, lit_3, lit_4, lit_5, lit_6, lit_7, lit_8, lit_9, lit_10, lit_11, lit_12, lit_13, lit_14, lit_20, lit_23, lit_24, lit_32, lit_33, lit_35, lit_40, lit_43, lit_45, lit_46, lit_47, lit_48, lit_49, lit_50, lit_57, lit_58, lit_59, lit_60, lit_61, lit_63, lit_64, lit_77, lit_95, lit_98, lit_99, lit_101, lit_104, lit_111, lit_112, lit_114, lit_116, lit_122, lit_127, lit_139, lit_147, lit_180, lit_255, lit_1000, lit_1029, I_lt, I_le, I_eq, I_cl, I_inb, if_pos, if_neg, eq_self, Bool.false_eq_true, ite_true, ite_false, Int.zero_add, Int.add_zero]
      · refine X_ok (σ (78 + 5 * i)) (by unfold sp_houseOf; (try simp only [Int.toNat_natCast]); rw [if_pos e1, if_pos e2]; try rfl) ?_
        · unfold F_X2_fromAt
          rw [x_at10 T.a1 hi hn.2]
          simp (disch := omega) only [brn_if, grd_if, ↓bnd_some, bnd_some, bnd_if, bnd_none, J_at, I_add, I_sub, I_mul, I_neg, lit_0, lit_1, lit_2, lit_3, lit_4, lit_5, lit_6, lit_7, lit_8, lit_9, lit_10, lit_11, lit_12, lit_13, lit_14, lit_20, lit_23, lit_24, lit_32, lit_33, lit_35, lit_40, lit_43, lit_45, lit_46, lit_47, lit_48, lit_49, lit_50, lit_57, lit_58, lit_59, lit_60, lit_61, lit_63, lit_64, lit_77, lit_95, lit_98, lit_99, lit_101, lit_104, lit_111, lit_112, lit_114, lit_116, lit_122, lit_127, lit_139, lit_147, lit_180, lit_255, lit_1000, lit_1029, I_lt, I_le, I_eq, I_cl, I_inb, if_pos, if_neg, eq_self, Bool.false_eq_true, ite_true, ite_false, Int.zero_add, Int.add_zero]
      · refine X_ok (σ (79 + 5 * i)) (by unfold sp_houseOf; (try simp only [Int.toNat_natCast]); rw [if_pos e1, if_pos e2]; try rfl) ?_
        · unfold F_X2_toAt
          rw [x_at10 T.a2 hi hn.2]
          simp (disch := omega) only [brn_if, grd_if, ↓bnd_some, bnd_some, bnd_if, bnd_none, J_at, I_add, I_sub, I_mul, I_neg, lit_0, lit_1, lit_2, lit_3, lit_4, lit_5, lit_6, lit_7, lit_8, lit_9, lit_10, lit_11, lit_12, lit_13, lit_14, lit_20, lit_23, lit_24, lit_32, lit_33, lit_35, lit_40, lit_43, lit_45, lit_46, lit_47, lit_48, lit_49, lit_50, lit_57, lit_58, lit_59, lit_60, lit_61, lit_63, lit_64, lit_77, lit_95, lit_98, lit_99, lit_101, lit_104, lit_111, lit_112, lit_114, lit_116, lit_122, lit_127, lit_139, lit_147, lit_180, lit_255, lit_1000, lit_1029, I_lt, I_le, I_eq, I_cl, I_inb, if_pos, if_neg, eq_self, Bool.false_eq_true, ite_true, ite_false, Int.zero_add, Int.add_zero]
      · refine X_ok (σ (80 + 5 * i)) (by unfold sp_houseOf; (try simp only [Int.toNat_natCast]); rw [if_pos e1, if_pos e2]; try rfl) ?_
        · unfold F_X2_ringsAt
          rw [x_at10 T.a3 hi hn.2]
          simp (disch := omega) only [brn_if, grd_if, ↓bnd_some, bnd_some, bnd_if, bnd_none, J_at, I_add, I_sub, I_mul, I_neg, lit_0, lit_1, lit_2, lit_3, lit_4, lit_5, lit_6, lit_7, lit_8, lit_9, lit_10, lit_11, lit_12, lit_13, lit_14, lit_20, lit_23, lit_24, lit_32, lit_33, lit_35, lit_40, lit_43, lit_45, lit_46, lit_47, lit_48, lit_49, lit_50, lit_57, lit_58, lit_59, lit_60, lit_61, lit_63, lit_64, lit_77, lit_95, lit_98, lit_99, lit_101, lit_104, lit_111, lit_112, lit_114, lit_116, lit_122, lit_127, lit_139, lit_147, lit_180, lit_255, lit_1000, lit_1029, I_lt, I_le, I_eq, I_cl, I_inb, if_pos, if_neg, eq_self, Bool.false_eq_true, ite_true, ite_false, Int.zero_add, Int.add_zero]
      · refine X_ok (σ (81 + 5 * i)) (by unfold sp_houseOf; (try simp only [Int.toNat_natCast]); rw [if_pos e1, if_pos e2]; try rfl) ?_
        · unfold F_X2_pranksAt
          rw [x_at10 T.a4 hi hn.2]
          simp (disch := omega) only [brn_if, grd_if, ↓bnd_some, bnd_some, bnd_if, bnd_none, J_at, I_add, I_sub, I_mul, I_neg, lit_0, lit_1, lit_2, lit_3, lit_4, lit_5, lit_6, lit_7, lit_8, lit_9, lit_10, lit_11, lit_12, lit_13, lit_14, lit_20, lit_23, lit_24, lit_32, lit_33, lit_35, lit_40, lit_43, lit_45, lit_46, lit_47, lit_48, lit_49, lit_50, lit_57, lit_58, lit_59, lit_60, lit_61, lit_63, lit_64, lit_77, lit_95, lit_98, lit_99, lit_101, lit_104, lit_111, lit_112, lit_114, lit_116, lit_122, lit_127, lit_139, lit_147, lit_180, lit_255, lit_1000, lit_1029, I_lt, I_le, I_eq, I_cl, I_inb, if_pos, if_neg, eq_self, Bool.false_eq_true, ite_true, ite_false, Int.zero_add, Int.add_zero]
      · refine X_ok (lOn σ (σ (77 + 5 * i))) (by unfold sp_houseOf; (try simp only [Int.toNat_natCast]); rw [if_pos e1, if_pos e2]; try rfl) ?_
        · simp (disch := omega) only [brn_if, grd_if, ↓bnd_some, bnd_some, bnd_if, bnd_none, J_at, I_add, I_sub, I_mul, I_neg, lit_0, lit_1, lit_2, lit_3, lit_4, lit_5, lit_6, lit_7, lit_8, lit_9, lit_10, lit_11, lit_12, lit_13, lit_14, lit_20, lit_23, lit_24, lit_32, lit_33, lit_35, lit_40, lit_43, lit_45, lit_46, lit_47, lit_48, lit_49, lit_50, lit_57, lit_58, lit_59, lit_60, lit_61, lit_63, lit_64, lit_77, lit_95, lit_98, lit_99, lit_101, lit_104, lit_111, lit_112, lit_114, lit_116, lit_122, lit_127, lit_139, lit_147, lit_180, lit_255, lit_1000, lit_1029, I_lt, I_le, I_eq, I_cl, I_inb, if_pos, if_neg, eq_self, Bool.false_eq_true, ite_true, ite_false, Int.zero_add, Int.add_zero, x_hcell h T.a0 hi, x_lOn h T.a5 T.a6 T.a7 hc.1.1 hc.1.2]
      · refine X_ok (if slB σ i (σ 0) = true then 1 else 0) (by unfold sp_houseOf; (try simp only [Int.toNat_natCast]); rw [if_pos e1, if_pos e2]; try rfl) ?_
        · rw [x_isAsleep h T.a1 T.a2 hi hh.1 hh.2]
          cases hb : slB σ i (σ 0)
          · simp (disch := omega) only [brn_if, grd_if, ↓bnd_some, bnd_some, bnd_if, bnd_none, J_at, I_add, I_sub, I_mul, I_neg, lit_0, lit_1, lit_2, lit_3, lit_4, lit_5, lit_6, lit_7, lit_8, lit_9, lit_10, lit_11, lit_12, lit_13, lit_14, lit_20, lit_23, lit_24, lit_32, lit_33, lit_35, lit_40, lit_43, lit_45, lit_46, lit_47, lit_48, lit_49, lit_50, lit_57, lit_58, lit_59, lit_60, lit_61, lit_63, lit_64, lit_77, lit_95, lit_98, lit_99, lit_101, lit_104, lit_111, lit_112, lit_114, lit_116, lit_122, lit_127, lit_139, lit_147, lit_180, lit_255, lit_1000, lit_1029, I_lt, I_le, I_eq, I_cl, I_inb, if_pos, if_neg, eq_self, Bool.false_eq_true, ite_true, ite_false, Int.zero_add, Int.add_zero, bI_f]
          · simp (disch := omega) only [brn_if, grd_if, ↓bnd_some, bnd_some, bnd_if, bnd_none, J_at, I_add, I_sub, I_mul, I_neg, lit_0, lit_1, lit_2, lit_3, lit_4, lit_5, lit_6, lit_7, lit_8, lit_9, lit_10, lit_11, lit_12, lit_13, lit_14, lit_20, lit_23, lit_24, lit_32, lit_33, lit_35, lit_40, lit_43, lit_45, lit_46, lit_47, lit_48, lit_49, lit_50, lit_57, lit_58, lit_59, lit_60, lit_61, lit_63, lit_64, lit_77, lit_95, lit_98, lit_99, lit_101, lit_104, lit_111, lit_112, lit_114, lit_116, lit_122, lit_127, lit_139, lit_147, lit_180, lit_255, lit_1000, lit_1029, I_lt, I_le, I_eq, I_cl, I_inb, if_pos, if_neg, eq_self, Bool.false_eq_true, ite_true, ite_false, Int.zero_add, Int.add_zero, bI_t]
      · refine X_ok (slN σ i) (by unfold sp_houseOf; (try simp only [Int.toNat_natCast]); rw [if_pos e1, if_pos e2]; try rfl) ?_
        · rw [x_sleepAt h T.a1 T.a2 hi]
          simp (disch := omega) only [brn_if, grd_if, ↓bnd_some, bnd_some, bnd_if, bnd_none, J_at, I_add, I_sub, I_mul, I_neg, lit_0, lit_1, lit_2, lit_3, lit_4, lit_5, lit_6, lit_7, lit_8, lit_9, lit_10, lit_11, lit_12, lit_13, lit_14, lit_20, lit_23, lit_24, lit_32, lit_33, lit_35, lit_40, lit_43, lit_45, lit_46, lit_47, lit_48, lit_49, lit_50, lit_57, lit_58, lit_59, lit_60, lit_61, lit_63, lit_64, lit_77, lit_95, lit_98, lit_99, lit_101, lit_104, lit_111, lit_112, lit_114, lit_116, lit_122, lit_127, lit_139, lit_147, lit_180, lit_255, lit_1000, lit_1029, I_lt, I_le, I_eq, I_cl, I_inb, if_pos, if_neg, eq_self, Bool.false_eq_true, ite_true, ite_false, Int.zero_add, Int.add_zero]
    · refine X_th 2 (by unfold sp_houseOf; (try simp only [Int.toNat_natCast]); rw [if_pos e1, if_neg e2]; try rfl) ?_
      · rw [x_has_p ha (by omega) e1, x_w7_n hf e2]
        simp (disch := omega) only [brn_if, grd_if, ↓bnd_some, bnd_some, bnd_if, bnd_none, J_at, I_add, I_sub, I_mul, I_neg, lit_0, lit_1, lit_2, lit_3, lit_4, lit_5, lit_6, lit_7, lit_8, lit_9, lit_10, lit_11, lit_12, lit_13, lit_14, lit_20, lit_23, lit_24, lit_32, lit_33, lit_35, lit_40, lit_43, lit_45, lit_46, lit_47, lit_48, lit_49, lit_50, lit_57, lit_58, lit_59, lit_60, lit_61, lit_63, lit_64, lit_77, lit_95, lit_98, lit_99, lit_101, lit_104, lit_111, lit_112, lit_114, lit_116, lit_122, lit_127, lit_139, lit_147, lit_180, lit_255, lit_1000, lit_1029, I_lt, I_le, I_eq, I_cl, I_inb, if_pos, if_neg, eq_self, Bool.false_eq_true, ite_true, ite_false, Int.zero_add, Int.add_zero, x_dLt, x_dPf]
  · refine X_th 1 (by unfold sp_houseOf; (try simp only [Int.toNat_natCast]); rw [if_neg e1]; try rfl) ?_
    · rw [x_has_n ha (by omega) e1, bnd_some, x_dLf, bnd_some, brn_neg _ _ (by decide), lit_0]

theorem v_rings (h : WF b σ) (T : TR σ v) {a : Int} (ha : InR a) : F_X11_rings (I a) (v.2 11) = some ((sp_rings σ a).1, I (sp_rings σ a).2) := by
  unfold F_X11_rings F_X9_countKind
  by_cases e1 : 0 ≤ a ∧ a ≤ 3
  · obtain ⟨i, rfl⟩ := Int.eq_ofNat_of_zero_le e1.1
    refine X_ok (σ (9 + i)) (by unfold sp_rings; (try simp only [Int.toNat_natCast]); rw [if_pos e1]; try rfl) ?_
    · rw [x_w3_p ha e1, x_at4 T.a11 (i := i) (by omega) (by omega)]
      simp (disch := omega) only [brn_if, grd_if, ↓bnd_some, bnd_some, bnd_if, bnd_none, J_at, I_add, I_sub, I_mul, I_neg, lit_0, lit_1, lit_2, lit_3, lit_4, lit_5, lit_6, lit_7, lit_8, lit_9, lit_10, lit_11, lit_12, lit_13, lit_14, lit_20, lit_23, lit_24, lit_32, lit_33, lit_35, lit_40, lit_43, lit_45, lit_46, lit_47, lit_48, lit_49, lit_50, lit_57, lit_58, lit_59, lit_60, lit_61, lit_63, lit_64, lit_77, lit_95, lit_98, lit_99, lit_101, lit_104, lit_111, lit_112, lit_114, lit_116, lit_122, lit_127, lit_139, lit_147, lit_180, lit_255, lit_1000, lit_1029, I_lt, I_le, I_eq, I_cl, I_inb, if_pos, if_neg, eq_self, Bool.false_eq_true, ite_true, ite_false, Int.zero_add, Int.add_zero, x_dPt]
  · refine X_th 2 (by unfold sp_rings; (try simp only [Int.toNat_natCast]); rw [if_neg e1]; try rfl) ?_
    · rw [x_w3_n ha e1]
      simp (disch := omega) only [brn_if, grd_if, ↓bnd_some, bnd_some, bnd_if, bnd_none, J_at, I_add, I_sub, I_mul, I_neg, lit_0, lit_1, lit_2, lit_3, lit_4, lit_5, lit_6, lit_7, lit_8, lit_9, lit_10, lit_11, lit_12, lit_13, lit_14, lit_20, lit_23, lit_24, lit_32, lit_33, lit_35, lit_40, lit_43, lit_45, lit_46, lit_47, lit_48, lit_49, lit_50, lit_57, lit_58, lit_59, lit_60, lit_61, lit_63, lit_64, lit_77, lit_95, lit_98, lit_99, lit_101, lit_104, lit_111, lit_112, lit_114, lit_116, lit_122, lit_127, lit_139, lit_147, lit_180, lit_255, lit_1000, lit_1029, I_lt, I_le, I_eq, I_cl, I_inb, if_pos, if_neg, eq_self, Bool.false_eq_true, ite_true, ite_false, Int.zero_add, Int.add_zero, x_dPf]

theorem v_postOf (h : WF b σ) (T : TR σ v) {a f : Int} (ha : InR a) (hf : InR f) : F_X11_postOf (I a) (I f) (v.1 8) (v.2 8) (v.2 9) = some ((sp_postOf σ a f).1, I (sp_postOf σ a f).2) := by
  have hn := h.q
  rw [T.1.2.2.2.2.2.2.2.2]
  unfold F_X11_postOf J_X11_postOf_59
  by_cases e1 : 0 ≤ a ∧ a < σ 4
  · by_cases e2 : 0 ≤ f ∧ f ≤ 1
    · obtain ⟨i, rfl⟩ := Int.eq_ofNat_of_zero_le e1.1
      have hi : (i : Int) < σ 4 := e1.2
      have hc := h.post hi
      rw [x5_has_p ha (by omega) e1, x_w1_p hf e2, x_told h T.a9 hi, x_pcell h T.a8 hi]
      simp only [bnd_some, x_dLt, x_dPt]
      rcases (show f = 0 ∨ f = 1 by omega) with rfl | rfl
      · refine X_ok (σ (139 + 2 * i)) (by unfold sp_postOf; (try simp only [Int.toNat_natCast]); rw [if_pos e1, if_pos e2, if_pos (by trivial)]; try rfl) ?_
        · simp (disch := omega) only [brn_if, grd_if, ↓bnd_some, bnd_some, bnd_if, bnd_none, J_at, I_add, I_sub, I_mul, I_neg, lit_0, lit_1, lit_2, lit_3, lit_4, lit_5, lit_6, lit_7, lit_8, lit_9, lit_10, lit_11, lit_12, lit_13, lit_14, lit_20, lit_23, lit_24, lit_32, lit_33, lit_35, lit_40, lit_43, lit_45, lit_46, lit_47, lit_48, lit_49, lit_50, lit_57, lit_58, lit_59, lit_60, lit_61, lit_63, lit_64, lit_77, lit_95, lit_98, lit_99, lit_101, lit_104, lit_111, lit_112, lit_114, lit_116, lit_122, lit_127, lit_139, lit_147, lit_180, lit_255, lit_1000, lit_1029, I_lt, I_le, I_eq, I_cl, I_inb, if_pos, if_neg, eq_self, Bool.false_eq_true, ite_true, ite_false, Int.zero_add, Int.add_zero]
      · by_cases e3 : σ (140 + 2 * i) = -1
        · refine X_th 4 (by unfold sp_postOf; (try simp only [Int.toNat_natCast]); rw [if_pos e1, if_pos e2, if_neg (by decide), if_pos e3]; try rfl) ?_
          · simp (disch := omega) only [brn_if, grd_if, ↓bnd_some, bnd_some, bnd_if, bnd_none, J_at, I_add, I_sub, I_mul, I_neg, lit_0, lit_1, lit_2, lit_3, lit_4, lit_5, lit_6, lit_7, lit_8, lit_9, lit_10, lit_11, lit_12, lit_13, lit_14, lit_20, lit_23, lit_24, lit_32, lit_33, lit_35, lit_40, lit_43, lit_45, lit_46, lit_47, lit_48, lit_49, lit_50, lit_57, lit_58, lit_59, lit_60, lit_61, lit_63, lit_64, lit_77, lit_95, lit_98, lit_99, lit_101, lit_104, lit_111, lit_112, lit_114, lit_116, lit_122, lit_127, lit_139, lit_147, lit_180, lit_255, lit_1000, lit_1029, I_lt, I_le, I_eq, I_cl, I_inb, if_pos, if_neg, eq_self, Bool.false_eq_true, ite_true, ite_false, Int.zero_add, Int.add_zero, x_dFf]
        · refine X_ok (σ (140 + 2 * i)) (by unfold sp_postOf; (try simp only [Int.toNat_natCast]); rw [if_pos e1, if_pos e2, if_neg (by decide), if_neg e3]; try rfl) ?_
          · simp (disch := omega) only [brn_if, grd_if, ↓bnd_some, bnd_some, bnd_if, bnd_none, J_at, I_add, I_sub, I_mul, I_neg, lit_0, lit_1, lit_2, lit_3, lit_4, lit_5, lit_6, lit_7, lit_8, lit_9, lit_10, lit_11, lit_12, lit_13, lit_14, lit_20, lit_23, lit_24, lit_32, lit_33, lit_35, lit_40, lit_43, lit_45, lit_46, lit_47, lit_48, lit_49, lit_50, lit_57, lit_58, lit_59, lit_60, lit_61, lit_63, lit_64, lit_77, lit_95, lit_98, lit_99, lit_101, lit_104, lit_111, lit_112, lit_114, lit_116, lit_122, lit_127, lit_139, lit_147, lit_180, lit_255, lit_1000, lit_1029, I_lt, I_le, I_eq, I_cl, I_inb, if_pos, if_neg, eq_self, Bool.false_eq_true, ite_true, ite_false, Int.zero_add, Int.add_zero, x_dFt]
    · refine X_th 2 (by unfold sp_postOf; (try simp only [Int.toNat_natCast]); rw [if_pos e1, if_neg e2]; try rfl) ?_
      · rw [x5_has_p ha (by omega) e1, x_w1_n hf e2]
        simp (disch := omega) only [brn_if, grd_if, ↓bnd_some, bnd_some, bnd_if, bnd_none, J_at, I_add, I_sub, I_mul, I_neg, lit_0, lit_1, lit_2, lit_3, lit_4, lit_5, lit_6, lit_7, lit_8, lit_9, lit_10, lit_11, lit_12, lit_13, lit_14, lit_20, lit_23, lit_24, lit_32, lit_33, lit_35, lit_40, lit_43, lit_45, lit_46, lit_47, lit_48, lit_49, lit_50, lit_57, lit_58, lit_59, lit_60, lit_61, lit_63, lit_64, lit_77, lit_95, lit_98, lit_99, lit_101, lit_104, lit_111, lit_112, lit_114, lit_116, lit_122, lit_127, lit_139, lit_147, lit_180, lit_255, lit_1000, lit_1029, I_lt, I_le, I_eq, I_cl, I_inb, if_pos, if_neg, eq_self, Bool.false_eq_true, ite_true, ite_false, Int.zero_add, Int.add_zero, x_dLt, x_dPf]
  · refine X_th 1 (by unfold sp_postOf; (try simp only [Int.toNat_natCast]); rw [if_neg e1]; try rfl) ?_
    · rw [x5_has_n ha (by omega) e1]
      simp (disch := omega) only [brn_if, grd_if, ↓bnd_some, bnd_some, bnd_if, bnd_none, J_at, I_add, I_sub, I_mul, I_neg, lit_0, lit_1, lit_2, lit_3, lit_4, lit_5, lit_6, lit_7, lit_8, lit_9, lit_10, lit_11, lit_12, lit_13, lit_14, lit_20, lit_23, lit_24, lit_32, lit_33, lit_35, lit_40, lit_43, lit_45, lit_46, lit_47, lit_48, lit_49, lit_50, lit_57, lit_58, lit_59, lit_60, lit_61, lit_63, lit_64, lit_77, lit_95, lit_98, lit_99, lit_101, lit_104, lit_111, lit_112, lit_114, lit_116, lit_122, lit_127, lit_139, lit_147, lit_180, lit_255, lit_1000, lit_1029, I_lt, I_le, I_eq, I_cl, I_inb, if_pos, if_neg, eq_self, Bool.false_eq_true, ite_true, ite_false, Int.zero_add, Int.add_zero, x_dLf]

theorem v_apart {a f : Int} (ha : InR a) (hf : InR f) : F_X11_apart (I a) (I f) = some ((sp_apart a f).1, I (sp_apart a f).2) := by
  unfold F_X11_apart J_X11_apart_18 J_X11_apart_19
  by_cases e1 : 0 ≤ a ∧ a ≤ 63
  · by_cases e2 : 0 ≤ f ∧ f ≤ 63
    · refine X_ok (far a f) (by unfold sp_apart; (try simp only [Int.toNat_natCast]); rw [if_pos e1, if_pos e2]; try rfl) ?_
      · rw [x_cell_p ha e1, x_cell_p hf e2, x_dist e1.1 e1.2 e2.1 e2.2]
        simp (disch := omega) only [brn_if, grd_if, ↓bnd_some, bnd_some, bnd_if, bnd_none, J_at, I_add, I_sub, I_mul, I_neg, lit_0, lit_1, lit_2, lit_3, lit_4, lit_5, lit_6, lit_7, lit_8, lit_9, lit_10, lit_11, lit_12, lit_13, lit_14, lit_20, lit_23, lit_24, lit_32, lit_33, lit_35, lit_40, lit_43, lit_45, lit_46, lit_47, lit_48, lit_49, lit_50, lit_57, lit_58, lit_59, lit_60, lit_61, lit_63, lit_64, lit_77, lit_95, lit_98, lit_99, lit_101, lit_104, lit_111, lit_112, lit_114, lit_116, lit_122, lit_127, lit_139, lit_147, lit_180, lit_255, lit_1000, lit_1029, I_lt, I_le, I_eq, I_cl, I_inb, if_pos, if_neg, eq_self, Bool.false_eq_true, ite_true, ite_false, Int.zero_add, Int.add_zero, x_dPt]
    · refine X_th 2 (by unfold sp_apart; (try simp only [Int.toNat_natCast]); rw [if_pos e1, if_neg e2]; try rfl) ?_
      · rw [x_cell_p ha e1, x_cell_n hf e2]
        simp (disch := omega) only [brn_if, grd_if, ↓bnd_some, bnd_some, bnd_if, bnd_none, J_at, I_add, I_sub, I_mul, I_neg, lit_0, lit_1, lit_2, lit_3, lit_4, lit_5, lit_6, lit_7, lit_8, lit_9, lit_10, lit_11, lit_12, lit_13, lit_14, lit_20, lit_23, lit_24, lit_32, lit_33, lit_35, lit_40, lit_43, lit_45, lit_46, lit_47, lit_48, lit_49, lit_50, lit_57, lit_58, lit_59, lit_60, lit_61, lit_63, lit_64, lit_77, lit_95, lit_98, lit_99, lit_101, lit_104, lit_111, lit_112, lit_114, lit_116, lit_122, lit_127, lit_139, lit_147, lit_180, lit_255, lit_1000, lit_1029, I_lt, I_le, I_eq, I_cl, I_inb, if_pos, if_neg, eq_self, Bool.false_eq_true, ite_true, ite_false, Int.zero_add, Int.add_zero, x_dPf]
  · refine X_th 2 (by unfold sp_apart; (try simp only [Int.toNat_natCast]); rw [if_neg e1]; try rfl) ?_
    · rw [x_cell_n ha e1]
      simp (disch := omega) only [brn_if, grd_if, ↓bnd_some, bnd_some, bnd_if, bnd_none, J_at, I_add, I_sub, I_mul, I_neg, lit_0, lit_1, lit_2, lit_3, lit_4, lit_5, lit_6, lit_7, lit_8, lit_9, lit_10, lit_11, lit_12, lit_13, lit_14, lit_20, lit_23, lit_24, lit_32, lit_33, lit_35, lit_40, lit_43, lit_45, lit_46, lit_47, lit_48, lit_49, lit_50, lit_57, lit_58, lit_59, lit_60, lit_61, lit_63, lit_64, lit_77, lit_95, lit_98, lit_99, lit_101, lit_104, lit_111, lit_112, lit_114, lit_116, lit_122, lit_127, lit_139, lit_147, lit_180, lit_255, lit_1000, lit_1029, I_lt, I_le, I_eq, I_cl, I_inb, if_pos, if_neg, eq_self, Bool.false_eq_true, ite_true, ite_false, Int.zero_add, Int.add_zero, x_dPf]

theorem v_classOf (h : WF b σ) (T : TR σ v) {a f x y : Int} (ha : InR a) (hf : InR f) (hx : InR x) (hy : InR y) : F_X11_classOf (I a) (I f) (I x) (I y) (v.1 6) (v.2 1) (v.2 2) = some ((sp_classOf σ a f x y).1, I (sp_classOf σ a f x y).2) := by
  have hn := h.n
  rw [T.1.2.2.2.2.2.2.1]
  unfold F_X11_classOf
  by_cases e1 : 0 ≤ a ∧ a < σ 2
  · by_cases e2 : (0 ≤ x ∧ x ≤ 9) ∧ (0 ≤ y ∧ y ≤ 9) ∧ 0 < x + y
    · rw [x_judge_0 ha (by omega) hx hy e1 e2]
      by_cases e3 : 0 ≤ f ∧ f ≤ 23
      · obtain ⟨i, rfl⟩ := Int.eq_ofNat_of_zero_le e1.1
        refine X_ok (kd σ i f x y) (by unfold sp_classOf; (try simp only [Int.toNat_natCast]); rw [if_pos e1, if_pos e2, if_pos e3]; try rfl) ?_
        · rw [x_hour_p hf e3, x_kind h T.a1 T.a2 e1.2 e3.1 e3.2 e2.1.1 e2.1.2 e2.2.1.1 e2.2.1.2 e2.2.2]
          simp (disch := omega) only [brn_if, grd_if, ↓bnd_some, bnd_some, bnd_if, bnd_none, J_at, I_add, I_sub, I_mul, I_neg, lit_0, lit_1, lit_2, lit_3, lit_4, lit_5, lit_6, lit_7, lit_8, lit_9, lit_10, lit_11, lit_12, lit_13, lit_14, lit_20, lit_23, lit_24, lit_32, lit_33, lit_35, lit_40, lit_43, lit_45, lit_46, lit_47, lit_48, lit_49, lit_50, lit_57, lit_58, lit_59, lit_60, lit_61, lit_63, lit_64, lit_77, lit_95, lit_98, lit_99, lit_101, lit_104, lit_111, lit_112, lit_114, lit_116, lit_122, lit_127, lit_139, lit_147, lit_180, lit_255, lit_1000, lit_1029, I_lt, I_le, I_eq, I_cl, I_inb, if_pos, if_neg, eq_self, Bool.false_eq_true, ite_true, ite_false, Int.zero_add, Int.add_zero, x_dFi0, x_dPt]
      · refine X_th 2 (by unfold sp_classOf; (try simp only [Int.toNat_natCast]); rw [if_pos e1, if_pos e2, if_neg e3]; try rfl) ?_
        · rw [x_hour_n hf e3]
          simp (disch := omega) only [brn_if, grd_if, ↓bnd_some, bnd_some, bnd_if, bnd_none, J_at, I_add, I_sub, I_mul, I_neg, lit_0, lit_1, lit_2, lit_3, lit_4, lit_5, lit_6, lit_7, lit_8, lit_9, lit_10, lit_11, lit_12, lit_13, lit_14, lit_20, lit_23, lit_24, lit_32, lit_33, lit_35, lit_40, lit_43, lit_45, lit_46, lit_47, lit_48, lit_49, lit_50, lit_57, lit_58, lit_59, lit_60, lit_61, lit_63, lit_64, lit_77, lit_95, lit_98, lit_99, lit_101, lit_104, lit_111, lit_112, lit_114, lit_116, lit_122, lit_127, lit_139, lit_147, lit_180, lit_255, lit_1000, lit_1029, I_lt, I_le, I_eq, I_cl, I_inb, if_pos, if_neg, eq_self, Bool.false_eq_true, ite_true, ite_false, Int.zero_add, Int.add_zero, x_dFi0, x_dPf]
    · refine X_th 2 (by unfold sp_classOf; (try simp only [Int.toNat_natCast]); rw [if_pos e1, if_neg e2]; try rfl) ?_
      · rw [x_judge_2 ha (by omega) hx hy e1 e2]
        simp (disch := omega) only [brn_if, grd_if, ↓bnd_some, bnd_some, bnd_if, bnd_none, J_at, I_add, I_sub, I_mul, I_neg, lit_0, lit_1, lit_2, lit_3, lit_4, lit_5, lit_6, lit_7, lit_8, lit_9, lit_10, lit_11, lit_12, lit_13, lit_14, lit_20, lit_23, lit_24, lit_32, lit_33, lit_35, lit_40, lit_43, lit_45, lit_46, lit_47, lit_48, lit_49, lit_50, lit_57, lit_58, lit_59, lit_60, lit_61, lit_63, lit_64, lit_77, lit_95, lit_98, lit_99, lit_101, lit_104, lit_111, lit_112, lit_114, lit_116, lit_122, lit_127, lit_139, lit_147, lit_180, lit_255, lit_1000, lit_1029, I_lt, I_le, I_eq, I_cl, I_inb, if_pos, if_neg, eq_self, Bool.false_eq_true, ite_true, ite_false, Int.zero_add, Int.add_zero, x_dFi2]
  · refine X_th 1 (by unfold sp_classOf; (try simp only [Int.toNat_natCast]); rw [if_neg e1]; try rfl) ?_
    · rw [x_judge_1 (x := 0) (y := 0) ha (by omega) e1]
      simp (disch := omega) only [brn_if, grd_if, ↓bnd_some, bnd_some, bnd_if, bnd_none, J_at, I_add, I_sub, I_mul, I_neg, lit_0, lit_1, lit_2, lit_3, lit_4, lit_5, lit_6, lit_7, lit_8, lit_9, lit_10, lit_11, lit_12, lit_13, lit_14, lit_20, lit_23, lit_24, lit_32, lit_33, lit_35, lit_40, lit_43, lit_45, lit_46, lit_47, lit_48, lit_49, lit_50, lit_57, lit_58, lit_59, lit_60, lit_61, lit_63, lit_64, lit_77, lit_95, lit_98, lit_99, lit_101, lit_104, lit_111, lit_112, lit_114, lit_116, lit_122, lit_127, lit_139, lit_147, lit_180, lit_255, lit_1000, lit_1029, I_lt, I_le, I_eq, I_cl, I_inb, if_pos, if_neg, eq_self, Bool.false_eq_true, ite_true, ite_false, Int.zero_add, Int.add_zero, x_dFi1]

theorem v_echo (h : WF b σ) (T : TR σ v) {a f x : Int} (ha : InR a) (hf : InR f) (hx : InR x) : F_X11_echo (I a) (I f) (I x) (v.1 6) (v.2 0) (v.1 7) (v.2 5) (v.2 6) (v.2 7) = some ((sp_echo σ a f x).1, I (sp_echo σ a f x).2) := by
  have hn := h.n
  rw [T.1.2.2.2.2.2.2.1, T.1.2.2.2.2.2.2.2.1]
  unfold F_X11_echo J_X11_echo_32 J_X11_echo_33
  by_cases e1 : 0 ≤ a ∧ a < σ 2
  · rw [x_has_p ha (by omega) e1]
    by_cases e2 : 0 ≤ f ∧ f < σ 2
    · rw [x_has_p hf (by omega) e2]
      by_cases e3 : 0 ≤ x ∧ x ≤ 9
      · obtain ⟨i, rfl⟩ := Int.eq_ofNat_of_zero_le e1.1
        obtain ⟨j, rfl⟩ := Int.eq_ofNat_of_zero_le e2.1
        rw [x_tone_p hx e3, x_echoed h T.a0 T.a5 T.a6 T.a7 e1.2 e2.2]
        cases hb : inH σ i j
        · refine X_th 4 (by unfold sp_echo; (try simp only [Int.toNat_natCast]); rw [if_pos e1, if_pos e2, if_pos e3, if_neg (by rw [hb]; decide)]; try rfl) ?_
          · simp (disch := omega) only [brn_if, grd_if, ↓bnd_some, bnd_some, bnd_if, bnd_none, J_at, I_add, I_sub, I_mul, I_neg, lit_0, lit_1, lit_2, lit_3, lit_4, lit_5, lit_6, lit_7, lit_8, lit_9, lit_10, lit_11, lit_12, lit_13, lit_14, lit_20, lit_23, lit_24, lit_32, lit_33, lit_35, lit_40, lit_43, lit_45, lit_46, lit_47, lit_48, lit_49, lit_50, lit_57, lit_58, lit_59, lit_60, lit_61, lit_63, lit_64, lit_77, lit_95, lit_98, lit_99, lit_101, lit_104, lit_111, lit_112, lit_114, lit_116, lit_122, lit_127, lit_139, lit_147, lit_180, lit_255, lit_1000, lit_1029, I_lt, I_le, I_eq, I_cl, I_inb, if_pos, if_neg, eq_self, Bool.false_eq_true, ite_true, ite_false, Int.zero_add, Int.add_zero, bI_f, x_dLt, x_dPt, x_dFf]
        · refine X_ok (shA σ i j x) (by unfold sp_echo; (try simp only [Int.toNat_natCast]); rw [if_pos e1, if_pos e2, if_pos e3, if_pos hb]; try rfl) ?_
          · rw [x_shorts h T.a0 e1.2 e2.2 e3.1 e3.2]
            simp (disch := omega) only [brn_if, grd_if, ↓bnd_some, bnd_some, bnd_if, bnd_none, J_at, I_add, I_sub, I_mul, I_neg, lit_0, lit_1, lit_2, lit_3, lit_4, lit_5, lit_6, lit_7, lit_8, lit_9, lit_10, lit_11, lit_12, lit_13, lit_14, lit_20, lit_23, lit_24, lit_32, lit_33, lit_35, lit_40, lit_43, lit_45, lit_46, lit_47, lit_48, lit_49, lit_50, lit_57, lit_58, lit_59, lit_60, lit_61, lit_63, lit_64, lit_77, lit_95, lit_98, lit_99, lit_101, lit_104, lit_111, lit_112, lit_114, lit_116, lit_122, lit_127, lit_139, lit_147, lit_180, lit_255, lit_1000, lit_1029, I_lt, I_le, I_eq, I_cl, I_inb, if_pos, if_neg, eq_self, Bool.false_eq_true, ite_true, ite_false, Int.zero_add, Int.add_zero, bI_t, x_dLt, x_dPt, x_dFt]
      · refine X_th 2 (by unfold sp_echo; (try simp only [Int.toNat_natCast]); rw [if_pos e1, if_pos e2, if_neg e3]; try rfl) ?_
        · rw [x_tone_n hx e3]
          simp (disch := omega) only [brn_if, grd_if, ↓bnd_some, bnd_some, bnd_if, bnd_none, J_at, I_add, I_sub, I_mul, I_neg, lit_0, lit_1, lit_2, lit_3, lit_4, lit_5, lit_6, lit_7, lit_8, lit_9, lit_10, lit_11, lit_12, lit_13, lit_14, lit_20, lit_23, lit_24, lit_32, lit_33, lit_35, lit_40, lit_43, lit_45, lit_46, lit_47, lit_48, lit_49, lit_50, lit_57, lit_58, lit_59, lit_60, lit_61, lit_63, lit_64, lit_77, lit_95, lit_98, lit_99, lit_101, lit_104, lit_111, lit_112, lit_114, lit_116, lit_122, lit_127, lit_139, lit_147, lit_180, lit_255, lit_1000, lit_1029, I_lt, I_le, I_eq, I_cl, I_inb, if_pos, if_neg, eq_self, Bool.false_eq_true, ite_true, ite_false, Int.zero_add, Int.add_zero, x_dLt, x_dPf]
    · refine X_th 1 (by unfold sp_echo; (try simp only [Int.toNat_natCast]); rw [if_pos e1, if_neg e2]; try rfl) ?_
      · rw [x_has_n hf (by omega) e2]
        simp (disch := omega) only [brn_if, grd_if, ↓bnd_some, bnd_some, bnd_if, bnd_none, J_at, I_add, I_sub, I_mul, I_neg, lit_0, lit_1, lit_2, lit_3, lit_4, lit_5, lit_6, lit_7, lit_8, lit_9, lit_10, lit_11, lit_12, lit_13, lit_14, lit_20, lit_23, lit_24, lit_32, lit_33, lit_35, lit_40, lit_43, lit_45, lit_46, lit_47, lit_48, lit_49, lit_50, lit_57, lit_58, lit_59, lit_60, lit_61, lit_63, lit_64, lit_77, lit_95, lit_98, lit_99, lit_101, lit_104, lit_111, lit_112, lit_114, lit_116, lit_122, lit_127, lit_139, lit_147, lit_180, lit_255, lit_1000, lit_1029, I_lt, I_le, I_eq, I_cl, I_inb, if_pos, if_neg, eq_self, Bool.false_eq_true, ite_true, ite_false, Int.zero_add, Int.add_zero, x_dLf]
  · refine X_th 1 (by unfold sp_echo; (try simp only [Int.toNat_natCast]); rw [if_neg e1]; try rfl) ?_
    · rw [x_has_n ha (by omega) e1]
      simp (disch := omega) only [brn_if, grd_if, ↓bnd_some, bnd_some, bnd_if, bnd_none, J_at, I_add, I_sub, I_mul, I_neg, lit_0, lit_1, lit_2, lit_3, lit_4, lit_5, lit_6, lit_7, lit_8, lit_9, lit_10, lit_11, lit_12, lit_13, lit_14, lit_20, lit_23, lit_24, lit_32, lit_33, lit_35, lit_40, lit_43, lit_45, lit_46, lit_47, lit_48, lit_49, lit_50, lit_57, lit_58, lit_59, lit_60, lit_61, lit_63, lit_64, lit_77, lit_95, lit_98, lit_99, lit_101, lit_104, lit_111, lit_112, lit_114, lit_116, lit_122, lit_127, lit_139, lit_147, lit_180, lit_255, lit_1000, lit_1029, I_lt, I_le, I_eq, I_cl, I_inb, if_pos, if_neg, eq_self, Bool.false_eq_true, ite_true, ite_false, Int.zero_add, Int.add_zero, x_dLf]

theorem v_heard (h : WF b σ) (T : TR σ v) {a x y : Int} (ha : InR a) (hx : InR x) (hy : InR y) : F_X11_heard (I a) (I x) (I y) (v.1 6) (v.2 0) (v.1 7) (v.2 5) (v.2 6) (v.2 7) = some ((sp_heard σ a x y).1, I (sp_heard σ a x y).2) := by
  have hn := h.n
  rw [T.1.2.2.2.2.2.2.1, T.1.2.2.2.2.2.2.2.1]
  unfold F_X11_heard
  by_cases e1 : 0 ≤ a ∧ a < σ 2
  · by_cases e2 : (0 ≤ x ∧ x ≤ 9) ∧ (0 ≤ y ∧ y ≤ 9) ∧ 0 < x + y
    · obtain ⟨i, rfl⟩ := Int.eq_ofNat_of_zero_le e1.1
      refine X_ok (1 + hrN σ i x y) (by unfold sp_heard; (try simp only [Int.toNat_natCast]); rw [if_pos e1, if_pos e2]; try rfl) ?_
      · rw [x_judge_0 ha (by omega) hx hy e1 e2, x_hearers h T e1.2 e2.1.1 e2.1.2 e2.2.1.1 e2.2.1.2]
        simp (disch := omega) only [brn_if, grd_if, ↓bnd_some, bnd_some, bnd_if, bnd_none, J_at, I_add, I_sub, I_mul, I_neg, lit_0, lit_1, lit_2, lit_3, lit_4, lit_5, lit_6, lit_7, lit_8, lit_9, lit_10, lit_11, lit_12, lit_13, lit_14, lit_20, lit_23, lit_24, lit_32, lit_33, lit_35, lit_40, lit_43, lit_45, lit_46, lit_47, lit_48, lit_49, lit_50, lit_57, lit_58, lit_59, lit_60, lit_61, lit_63, lit_64, lit_77, lit_95, lit_98, lit_99, lit_101, lit_104, lit_111, lit_112, lit_114, lit_116, lit_122, lit_127, lit_139, lit_147, lit_180, lit_255, lit_1000, lit_1029, I_lt, I_le, I_eq, I_cl, I_inb, if_pos, if_neg, eq_self, Bool.false_eq_true, ite_true, ite_false, Int.zero_add, Int.add_zero, x_dFi0]
    · refine X_th 2 (by unfold sp_heard; (try simp only [Int.toNat_natCast]); rw [if_pos e1, if_neg e2]; try rfl) ?_
      · rw [x_judge_2 ha (by omega) hx hy e1 e2]
        simp (disch := omega) only [brn_if, grd_if, ↓bnd_some, bnd_some, bnd_if, bnd_none, J_at, I_add, I_sub, I_mul, I_neg, lit_0, lit_1, lit_2, lit_3, lit_4, lit_5, lit_6, lit_7, lit_8, lit_9, lit_10, lit_11, lit_12, lit_13, lit_14, lit_20, lit_23, lit_24, lit_32, lit_33, lit_35, lit_40, lit_43, lit_45, lit_46, lit_47, lit_48, lit_49, lit_50, lit_57, lit_58, lit_59, lit_60, lit_61, lit_63, lit_64, lit_77, lit_95, lit_98, lit_99, lit_101, lit_104, lit_111, lit_112, lit_114, lit_116, lit_122, lit_127, lit_139, lit_147, lit_180, lit_255, lit_1000, lit_1029, I_lt, I_le, I_eq, I_cl, I_inb, if_pos, if_neg, eq_self, Bool.false_eq_true, ite_true, ite_false, Int.zero_add, Int.add_zero, x_dFi2]
  · refine X_th 1 (by unfold sp_heard; (try simp only [Int.toNat_natCast]); rw [if_neg e1]; try rfl) ?_
    · rw [x_judge_1 (x := 0) (y := 0) ha (by omega) e1]
      simp (disch := omega) only [brn_if, grd_if, ↓bnd_some, bnd_some, bnd_if, bnd_none, J_at, I_add, I_sub, I_mul, I_neg, lit_0, lit_1, lit_2, lit_3, lit_4, lit_5, lit_6, lit_7, lit_8, lit_9, lit_10, lit_11, lit_12, lit_13, lit_14, lit_20, lit_23, lit_24, lit_32, lit_33, lit_35, lit_40, lit_43, lit_45, lit_46, lit_47, lit_48, lit_49, lit_50, lit_57, lit_58, lit_59, lit_60, lit_61, lit_63, lit_64, lit_77, lit_95, lit_98, lit_99, lit_101, lit_104, lit_111, lit_112, lit_114, lit_116, lit_122, lit_127, lit_139, lit_147, lit_180, lit_255, lit_1000, lit_1029, I_lt, I_le, I_eq, I_cl, I_inb, if_pos, if_neg, eq_self, Bool.false_eq_true, ite_true, ite_false, Int.zero_add, Int.add_zero, x_dFi1]

theorem v_account (h : WF b σ) (T : TR σ v) {a pn on : Int} (ha : InR a) : F_X11_account (I a) (v.1 0) (v.1 1) (v.1 2) (v.1 3) (v.1 4) (v.1 5) (v.1 6) (v.1 7) (v.1 8) (v.2 9) (v.2 10) (I pn) (I on) = some ((sp_account σ a pn on).1, I (sp_account σ a pn on).2) := by
  have hn := h.n
  obtain ⟨t0, t1, t2, t3, t4, t5, t6, t7, t8⟩ := T.1
  rw [t0, t1, t2, t3, t4, t5, t6, t7, t8]
  unfold F_X11_account F_X9_countOf F_X3_size F_X4_size F_X2_size F_X1_size F_X5_size
  by_cases e1 : 0 ≤ a ∧ a ≤ 12
  · rw [x_w12_p ha e1, x_telN h T.a9, x_blkN T.a10]
    simp only [bnd_some, x_dPt]
    rcases (show a = 0 ∨ a = 1 ∨ a = 2 ∨ a = 3 ∨ a = 4 ∨ a = 5 ∨ a = 6 ∨ a = 7 ∨ a = 8 ∨ a = 9 ∨ a = 10 ∨ a = 11 ∨ a = 12 by omega) with rfl | rfl | rfl | rfl | rfl | rfl | rfl | rfl | rfl | rfl | rfl | rfl | rfl
    · refine X_ok (σ 0) (by unfold sp_account; (try simp only [Int.toNat_natCast]); rw [if_pos e1]; try rfl) ?_
      simp (disch := omega) only [brn_if, grd_if, ↓bnd_some, bnd_some, bnd_if, bnd_none, J_at, I_add, I_sub, I_mul, I_neg, lit_0, lit_1, lit_2, lit_3, lit_4, lit_5, lit_6, lit_7, lit_8, lit_9, lit_10, lit_11, lit_12, lit_13, lit_14, lit_20, lit_23, lit_24, lit_32, lit_33, lit_35, lit_40, lit_43, lit_45, lit_46, lit_47, lit_48, lit_49, lit_50, lit_57, lit_58, lit_59, lit_60, lit_61, lit_63, lit_64, lit_77, lit_95, lit_98, lit_99, lit_101, lit_104, lit_111, lit_112, lit_114, lit_116, lit_122, lit_127, lit_139, lit_147, lit_180, lit_255, lit_1000, lit_1029, I_lt, I_le, I_eq, I_cl, I_inb, if_pos, if_neg, eq_self, Bool.false_eq_true, ite_true, ite_false, Int.zero_add, Int.add_zero, tn_0]
    · refine X_ok (σ 1) (by unfold sp_account; (try simp only [Int.toNat_natCast]); rw [if_pos e1]; try rfl) ?_
      simp (disch := omega) only [brn_if, grd_if, ↓bnd_some, bnd_some, bnd_if, bnd_none, J_at, I_add, I_sub, I_mul, I_neg, lit_0, lit_1, lit_2, lit_3, lit_4, lit_5, lit_6, lit_7, lit_8, lit_9, lit_10, lit_11, lit_12, lit_13, lit_14, lit_20, lit_23, lit_24, lit_32, lit_33, lit_35, lit_40, lit_43, lit_45, lit_46, lit_47, lit_48, lit_49, lit_50, lit_57, lit_58, lit_59, lit_60, lit_61, lit_63, lit_64, lit_77, lit_95, lit_98, lit_99, lit_101, lit_104, lit_111, lit_112, lit_114, lit_116, lit_122, lit_127, lit_139, lit_147, lit_180, lit_255, lit_1000, lit_1029, I_lt, I_le, I_eq, I_cl, I_inb, if_pos, if_neg, eq_self, Bool.false_eq_true, ite_true, ite_false, Int.zero_add, Int.add_zero, tn_0]
    · refine X_ok (σ 2) (by unfold sp_account; (try simp only [Int.toNat_natCast]); rw [if_pos e1]; try rfl) ?_
      simp (disch := omega) only [brn_if, grd_if, ↓bnd_some, bnd_some, bnd_if, bnd_none, J_at, I_add, I_sub, I_mul, I_neg, lit_0, lit_1, lit_2, lit_3, lit_4, lit_5, lit_6, lit_7, lit_8, lit_9, lit_10, lit_11, lit_12, lit_13, lit_14, lit_20, lit_23, lit_24, lit_32, lit_33, lit_35, lit_40, lit_43, lit_45, lit_46, lit_47, lit_48, lit_49, lit_50, lit_57, lit_58, lit_59, lit_60, lit_61, lit_63, lit_64, lit_77, lit_95, lit_98, lit_99, lit_101, lit_104, lit_111, lit_112, lit_114, lit_116, lit_122, lit_127, lit_139, lit_147, lit_180, lit_255, lit_1000, lit_1029, I_lt, I_le, I_eq, I_cl, I_inb, if_pos, if_neg, eq_self, Bool.false_eq_true, ite_true, ite_false, Int.zero_add, Int.add_zero, tn_0]
    · refine X_ok (σ 3) (by unfold sp_account; (try simp only [Int.toNat_natCast]); rw [if_pos e1]; try rfl) ?_
      simp (disch := omega) only [brn_if, grd_if, ↓bnd_some, bnd_some, bnd_if, bnd_none, J_at, I_add, I_sub, I_mul, I_neg, lit_0, lit_1, lit_2, lit_3, lit_4, lit_5, lit_6, lit_7, lit_8, lit_9, lit_10, lit_11, lit_12, lit_13, lit_14, lit_20, lit_23, lit_24, lit_32, lit_33, lit_35, lit_40, lit_43, lit_45, lit_46, lit_47, lit_48, lit_49, lit_50, lit_57, lit_58, lit_59, lit_60, lit_61, lit_63, lit_64, lit_77, lit_95, lit_98, lit_99, lit_101, lit_104, lit_111, lit_112, lit_114, lit_116, lit_122, lit_127, lit_139, lit_147, lit_180, lit_255, lit_1000, lit_1029, I_lt, I_le, I_eq, I_cl, I_inb, if_pos, if_neg, eq_self, Bool.false_eq_true, ite_true, ite_false, Int.zero_add, Int.add_zero, tn_0]
    · refine X_ok (σ 4) (by unfold sp_account; (try simp only [Int.toNat_natCast]); rw [if_pos e1]; try rfl) ?_
      simp (disch := omega) only [brn_if, grd_if, ↓bnd_some, bnd_some, bnd_if, bnd_none, J_at, I_add, I_sub, I_mul, I_neg, lit_0, lit_1, lit_2, lit_3, lit_4, lit_5, lit_6, lit_7, lit_8, lit_9, lit_10, lit_11, lit_12, lit_13, lit_14, lit_20, lit_23, lit_24, lit_32, lit_33, lit_35, lit_40, lit_43, lit_45, lit_46, lit_47, lit_48, lit_49, lit_50, lit_57, lit_58, lit_59, lit_60, lit_61, lit_63, lit_64, lit_77, lit_95, lit_98, lit_99, lit_101, lit_104, lit_111, lit_112, lit_114, lit_116, lit_122, lit_127, lit_139, lit_147, lit_180, lit_255, lit_1000, lit_1029, I_lt, I_le, I_eq, I_cl, I_inb, if_pos, if_neg, eq_self, Bool.false_eq_true, ite_true, ite_false, Int.zero_add, Int.add_zero, tn_0]
    · refine X_ok (telN σ) (by unfold sp_account; (try simp only [Int.toNat_natCast]); rw [if_pos e1]; try rfl) ?_
      simp (disch := omega) only [brn_if, grd_if, ↓bnd_some, bnd_some, bnd_if, bnd_none, J_at, I_add, I_sub, I_mul, I_neg, lit_0, lit_1, lit_2, lit_3, lit_4, lit_5, lit_6, lit_7, lit_8, lit_9, lit_10, lit_11, lit_12, lit_13, lit_14, lit_20, lit_23, lit_24, lit_32, lit_33, lit_35, lit_40, lit_43, lit_45, lit_46, lit_47, lit_48, lit_49, lit_50, lit_57, lit_58, lit_59, lit_60, lit_61, lit_63, lit_64, lit_77, lit_95, lit_98, lit_99, lit_101, lit_104, lit_111, lit_112, lit_114, lit_116, lit_122, lit_127, lit_139, lit_147, lit_180, lit_255, lit_1000, lit_1029, I_lt, I_le, I_eq, I_cl, I_inb, if_pos, if_neg, eq_self, Bool.false_eq_true, ite_true, ite_false, Int.zero_add, Int.add_zero, tn_0]
    · refine X_ok (blkN σ) (by unfold sp_account; (try simp only [Int.toNat_natCast]); rw [if_pos e1]; try rfl) ?_
      simp (disch := omega) only [brn_if, grd_if, ↓bnd_some, bnd_some, bnd_if, bnd_none, J_at, I_add, I_sub, I_mul, I_neg, lit_0, lit_1, lit_2, lit_3, lit_4, lit_5, lit_6, lit_7, lit_8, lit_9, lit_10, lit_11, lit_12, lit_13, lit_14, lit_20, lit_23, lit_24, lit_32, lit_33, lit_35, lit_40, lit_43, lit_45, lit_46, lit_47, lit_48, lit_49, lit_50, lit_57, lit_58, lit_59, lit_60, lit_61, lit_63, lit_64, lit_77, lit_95, lit_98, lit_99, lit_101, lit_104, lit_111, lit_112, lit_114, lit_116, lit_122, lit_127, lit_139, lit_147, lit_180, lit_255, lit_1000, lit_1029, I_lt, I_le, I_eq, I_cl, I_inb, if_pos, if_neg, eq_self, Bool.false_eq_true, ite_true, ite_false, Int.zero_add, Int.add_zero, tn_0]
    · refine X_ok (σ 5) (by unfold sp_account; (try simp only [Int.toNat_natCast]); rw [if_pos e1]; try rfl) ?_
      simp (disch := omega) only [brn_if, grd_if, ↓bnd_some, bnd_some, bnd_if, bnd_none, J_at, I_add, I_sub, I_mul, I_neg, lit_0, lit_1, lit_2, lit_3, lit_4, lit_5, lit_6, lit_7, lit_8, lit_9, lit_10, lit_11, lit_12, lit_13, lit_14, lit_20, lit_23, lit_24, lit_32, lit_33, lit_35, lit_40, lit_43, lit_45, lit_46, lit_47, lit_48, lit_49, lit_50, lit_57, lit_58, lit_59, lit_60, lit_61, lit_63, lit_64, lit_77, lit_95, lit_98, lit_99, lit_101, lit_104, lit_111, lit_112, lit_114, lit_116, lit_122, lit_127, lit_139, lit_147, lit_180, lit_255, lit_1000, lit_1029, I_lt, I_le, I_eq, I_cl, I_inb, if_pos, if_neg, eq_self, Bool.false_eq_true, ite_true, ite_false, Int.zero_add, Int.add_zero, tn_0]
    · refine X_ok (σ 6) (by unfold sp_account; (try simp only [Int.toNat_natCast]); rw [if_pos e1]; try rfl) ?_
      simp (disch := omega) only [brn_if, grd_if, ↓bnd_some, bnd_some, bnd_if, bnd_none, J_at, I_add, I_sub, I_mul, I_neg, lit_0, lit_1, lit_2, lit_3, lit_4, lit_5, lit_6, lit_7, lit_8, lit_9, lit_10, lit_11, lit_12, lit_13, lit_14, lit_20, lit_23, lit_24, lit_32, lit_33, lit_35, lit_40, lit_43, lit_45, lit_46, lit_47, lit_48, lit_49, lit_50, lit_57, lit_58, lit_59, lit_60, lit_61, lit_63, lit_64, lit_77, lit_95, lit_98, lit_99, lit_101, lit_104, lit_111, lit_112, lit_114, lit_116, lit_122, lit_127, lit_139, lit_147, lit_180, lit_255, lit_1000, lit_1029, I_lt, I_le, I_eq, I_cl, I_inb, if_pos, if_neg, eq_self, Bool.false_eq_true, ite_true, ite_false, Int.zero_add, Int.add_zero, tn_0]
    · refine X_ok (σ 7) (by unfold sp_account; (try simp only [Int.toNat_natCast]); rw [if_pos e1]; try rfl) ?_
      simp (disch := omega) only [brn_if, grd_if, ↓bnd_some, bnd_some, bnd_if, bnd_none, J_at, I_add, I_sub, I_mul, I_neg, lit_0, lit_1, lit_2, lit_3, lit_4, lit_5, lit_6, lit_7, lit_8, lit_9, lit_10, lit_11, lit_12, lit_13, lit_14, lit_20, lit_23, lit_24, lit_32, lit_33, lit_35, lit_40, lit_43, lit_45, lit_46, lit_47, lit_48, lit_49, lit_50, lit_57, lit_58, lit_59, lit_60, lit_61, lit_63, lit_64, lit_77, lit_95, lit_98, lit_99, lit_101, lit_104, lit_111, lit_112, lit_114, lit_116, lit_122, lit_127, lit_139, lit_147, lit_180, lit_255, lit_1000, lit_1029, I_lt, I_le, I_eq, I_cl, I_inb, if_pos, if_neg, eq_self, Bool.false_eq_true, ite_true, ite_false, Int.zero_add, Int.add_zero, tn_0]
    · refine X_ok (σ 8 - 1) (by unfold sp_account; (try simp only [Int.toNat_natCast]); rw [if_pos e1]; try rfl) ?_
      simp (disch := omega) only [brn_if, grd_if, ↓bnd_some, bnd_some, bnd_if, bnd_none, J_at, I_add, I_sub, I_mul, I_neg, lit_0, lit_1, lit_2, lit_3, lit_4, lit_5, lit_6, lit_7, lit_8, lit_9, lit_10, lit_11, lit_12, lit_13, lit_14, lit_20, lit_23, lit_24, lit_32, lit_33, lit_35, lit_40, lit_43, lit_45, lit_46, lit_47, lit_48, lit_49, lit_50, lit_57, lit_58, lit_59, lit_60, lit_61, lit_63, lit_64, lit_77, lit_95, lit_98, lit_99, lit_101, lit_104, lit_111, lit_112, lit_114, lit_116, lit_122, lit_127, lit_139, lit_147, lit_180, lit_255, lit_1000, lit_1029, I_lt, I_le, I_eq, I_cl, I_inb, if_pos, if_neg, eq_self, Bool.false_eq_true, ite_true, ite_false, Int.zero_add, Int.add_zero, tn_0]
    · refine X_ok on (by unfold sp_account; (try simp only [Int.toNat_natCast]); rw [if_pos e1]; try rfl) ?_
      simp (disch := omega) only [brn_if, grd_if, ↓bnd_some, bnd_some, bnd_if, bnd_none, J_at, I_add, I_sub, I_mul, I_neg, lit_0, lit_1, lit_2, lit_3, lit_4, lit_5, lit_6, lit_7, lit_8, lit_9, lit_10, lit_11, lit_12, lit_13, lit_14, lit_20, lit_23, lit_24, lit_32, lit_33, lit_35, lit_40, lit_43, lit_45, lit_46, lit_47, lit_48, lit_49, lit_50, lit_57, lit_58, lit_59, lit_60, lit_61, lit_63, lit_64, lit_77, lit_95, lit_98, lit_99, lit_101, lit_104, lit_111, lit_112, lit_114, lit_116, lit_122, lit_127, lit_139, lit_147, lit_180, lit_255, lit_1000, lit_1029, I_lt, I_le, I_eq, I_cl, I_inb, if_pos, if_neg, eq_self, Bool.false_eq_true, ite_true, ite_false, Int.zero_add, Int.add_zero, tn_0]
    · refine X_ok pn (by unfold sp_account; (try simp only [Int.toNat_natCast]); rw [if_pos e1]; try rfl) ?_
      simp (disch := omega) only [brn_if, grd_if, ↓bnd_some, bnd_some, bnd_if, bnd_none, J_at, I_add, I_sub, I_mul, I_neg, lit_0, lit_1, lit_2, lit_3, lit_4, lit_5, lit_6, lit_7, lit_8, lit_9, lit_10, lit_11, lit_12, lit_13, lit_14, lit_20, lit_23, lit_24, lit_32, lit_33, lit_35, lit_40, lit_43, lit_45, lit_46, lit_47, lit_48, lit_49, lit_50, lit_57, lit_58, lit_59, lit_60, lit_61, lit_63, lit_64, lit_77, lit_95, lit_98, lit_99, lit_101, lit_104, lit_111, lit_112, lit_114, lit_116, lit_122, lit_127, lit_139, lit_147, lit_180, lit_255, lit_1000, lit_1029, I_lt, I_le, I_eq, I_cl, I_inb, if_pos, if_neg, eq_self, Bool.false_eq_true, ite_true, ite_false, Int.zero_add, Int.add_zero, tn_0]
  · refine X_th 2 (by unfold sp_account; (try simp only [Int.toNat_natCast]); rw [if_neg e1]; try rfl) ?_
    · rw [x_w12_n ha e1]
      simp (disch := omega) only [brn_if, grd_if, ↓bnd_some, bnd_some, bnd_if, bnd_none, J_at, I_add, I_sub, I_mul, I_neg, lit_0, lit_1, lit_2, lit_3, lit_4, lit_5, lit_6, lit_7, lit_8, lit_9, lit_10, lit_11, lit_12, lit_13, lit_14, lit_20, lit_23, lit_24, lit_32, lit_33, lit_35, lit_40, lit_43, lit_45, lit_46, lit_47, lit_48, lit_49, lit_50, lit_57, lit_58, lit_59, lit_60, lit_61, lit_63, lit_64, lit_77, lit_95, lit_98, lit_99, lit_101, lit_104, lit_111, lit_112, lit_114, lit_116, lit_122, lit_127, lit_139, lit_147, lit_180, lit_255, lit_1000, lit_1029, I_lt, I_le, I_eq, I_cl, I_inb, if_pos, if_neg, eq_self, Bool.false_eq_true, ite_true, ite_false, Int.zero_add, Int.add_zero, x_dPf]

theorem v_fits (h : WF b σ) (T : TR σ v) {a : Int} (ha : InR a) : F_X11_fits (I a) (v.1 2) (v.1 8) (v.2 8) (v.2 9) (v.2 10) = some ((sp_fits σ a).1, I (sp_fits σ a).2) := by
  have hn := h.look
  rw [T.1.2.2.1, T.1.2.2.2.2.2.2.2.2]
  unfold F_X11_fits F_X9_hasPrank
  by_cases e1 : 0 ≤ a ∧ a ≤ 63
  · rw [x_cell_p ha e1, x_canBe h T.a8 T.a9 T.a10 e1.1 e1.2]
    by_cases e2 : σ 8 = 0
    · refine X_th 4 (by unfold sp_fits; (try simp only [Int.toNat_natCast]); rw [if_pos e1, if_pos e2]; try rfl) ?_
      · simp (disch := omega) only [brn_if, grd_if, ↓bnd_some, bnd_some, bnd_if, bnd_none, J_at, I_add, I_sub, I_mul, I_neg, lit_0, lit_1, lit_2, lit_3, lit_4, lit_5, lit_6, lit_7, lit_8, lit_9, lit_10, lit_11, lit_12, lit_13, lit_14, lit_20, lit_23, lit_24, lit_32, lit_33, lit_35, lit_40, lit_43, lit_45, lit_46, lit_47, lit_48, lit_49, lit_50, lit_57, lit_58, lit_59, lit_60, lit_61, lit_63, lit_64, lit_77, lit_95, lit_98, lit_99, lit_101, lit_104, lit_111, lit_112, lit_114, lit_116, lit_122, lit_127, lit_139, lit_147, lit_180, lit_255, lit_1000, lit_1029, I_lt, I_le, I_eq, I_cl, I_inb, if_pos, if_neg, eq_self, Bool.false_eq_true, ite_true, ite_false, Int.zero_add, Int.add_zero, x_dPt, x_dFf]
    · refine X_ok (if canB σ a = true then 1 else 0) (by unfold sp_fits; (try simp only [Int.toNat_natCast]); rw [if_pos e1, if_neg e2]; try rfl) ?_
      · cases hb : canB σ a
        · simp (disch := omega) only [brn_if, grd_if, ↓bnd_some, bnd_some, bnd_if, bnd_none, J_at, I_add, I_sub, I_mul, I_neg, lit_0, lit_1, lit_2, lit_3, lit_4, lit_5, lit_6, lit_7, lit_8, lit_9, lit_10, lit_11, lit_12, lit_13, lit_14, lit_20, lit_23, lit_24, lit_32, lit_33, lit_35, lit_40, lit_43, lit_45, lit_46, lit_47, lit_48, lit_49, lit_50, lit_57, lit_58, lit_59, lit_60, lit_61, lit_63, lit_64, lit_77, lit_95, lit_98, lit_99, lit_101, lit_104, lit_111, lit_112, lit_114, lit_116, lit_122, lit_127, lit_139, lit_147, lit_180, lit_255, lit_1000, lit_1029, I_lt, I_le, I_eq, I_cl, I_inb, if_pos, if_neg, eq_self, Bool.false_eq_true, ite_true, ite_false, Int.zero_add, Int.add_zero, x_dPt, x_dFt, bI_f, true_or, or_true]
        · simp (disch := omega) only [brn_if, grd_if, ↓bnd_some, bnd_some, bnd_if, bnd_none, J_at, I_add, I_sub, I_mul, I_neg, lit_0, lit_1, lit_2, lit_3, lit_4, lit_5, lit_6, lit_7, lit_8, lit_9, lit_10, lit_11, lit_12, lit_13, lit_14, lit_20, lit_23, lit_24, lit_32, lit_33, lit_35, lit_40, lit_43, lit_45, lit_46, lit_47, lit_48, lit_49, lit_50, lit_57, lit_58, lit_59, lit_60, lit_61, lit_63, lit_64, lit_77, lit_95, lit_98, lit_99, lit_101, lit_104, lit_111, lit_112, lit_114, lit_116, lit_122, lit_127, lit_139, lit_147, lit_180, lit_255, lit_1000, lit_1029, I_lt, I_le, I_eq, I_cl, I_inb, if_pos, if_neg, eq_self, Bool.false_eq_true, ite_true, ite_false, Int.zero_add, Int.add_zero, x_dPt, x_dFt, bI_t, true_or, or_true]
  · refine X_th 2 (by unfold sp_fits; (try simp only [Int.toNat_natCast]); rw [if_neg e1]; try rfl) ?_
    · rw [x_cell_n ha e1]
      simp (disch := omega) only [brn_if, grd_if, ↓bnd_some, bnd_some, bnd_if, bnd_none, J_at, I_add, I_sub, I_mul, I_neg, lit_0, lit_1, lit_2, lit_3, lit_4, lit_5, lit_6, lit_7, lit_8, lit_9, lit_10, lit_11, lit_12, lit_13, lit_14, lit_20, lit_23, lit_24, lit_32, lit_33, lit_35, lit_40, lit_43, lit_45, lit_46, lit_47, lit_48, lit_49, lit_50, lit_57, lit_58, lit_59, lit_60, lit_61, lit_63, lit_64, lit_77, lit_95, lit_98, lit_99, lit_101, lit_104, lit_111, lit_112, lit_114, lit_116, lit_122, lit_127, lit_139, lit_147, lit_180, lit_255, lit_1000, lit_1029, I_lt, I_le, I_eq, I_cl, I_inb, if_pos, if_neg, eq_self, Bool.false_eq_true, ite_true, ite_false, Int.zero_add, Int.add_zero, x_dPf]

theorem v_asleep (h : WF b σ) (T : TR σ v) {a f : Int} (ha : InR a) (hf : InR f) : F_X11_asleep (I a) (I f) (v.1 6) (v.2 1) (v.2 2) = some ((sp_asleep σ a).1, I (sp_asleep σ a).2) := by
  rw [T.1.2.2.2.2.2.2.1]
  unfold F_X11_asleep
  by_cases e1 : 0 ≤ a ∧ a ≤ 23
  · refine X_ok (slC σ a) (by unfold sp_asleep; (try simp only [Int.toNat_natCast]); rw [if_pos e1]; try rfl) ?_
    · rw [x_hour_p ha e1, x_sleepers h T.a1 T.a2 e1.1 e1.2, x_turns h T e1.1 e1.2]
      by_cases e : f = 0
      · simp (disch := omega) only [brn_if, grd_if, ↓bnd_some, bnd_some, bnd_if, bnd_none, J_at, I_add, I_sub, I_mul, I_neg, lit_0, lit_1, lit_2, lit_3, lit_4, lit_5, lit_6, lit_7, lit_8, lit_9, lit_10, lit_11, lit_12, lit_13, lit_14, lit_20, lit_23, lit_24, lit_32, lit_33, lit_35, lit_40, lit_43, lit_45, lit_46, lit_47, lit_48, lit_49, lit_50, lit_57, lit_58, lit_59, lit_60, lit_61, lit_63, lit_64, lit_77, lit_95, lit_98, lit_99, lit_101, lit_104, lit_111, lit_112, lit_114, lit_116, lit_122, lit_127, lit_139, lit_147, lit_180, lit_255, lit_1000, lit_1029, I_lt, I_le, I_eq, I_cl, I_inb, if_pos, if_neg, eq_self, Bool.false_eq_true, ite_true, ite_false, Int.zero_add, Int.add_zero, x_dPt]
      · simp (disch := omega) only [brn_if, grd_if, ↓bnd_some, bnd_some, bnd_if, bnd_none, J_at, I_add, I_sub, I_mul, I_neg, lit_0, lit_1, lit_2, lit_3, lit_4, lit_5, lit_6, lit_7, lit_8, lit_9, lit_10, lit_11, lit_12, lit_13, lit_14, lit_20, lit_23, lit_24, lit_32, lit_33, lit_35, lit_40, lit_43, lit_45, lit_46, lit_47, lit_48, lit_49, lit_50, lit_57, lit_58, lit_59, lit_60, lit_61, lit_63, lit_64, lit_77, lit_95, lit_98, lit_99, lit_101, lit_104, lit_111, lit_112, lit_114, lit_116, lit_122, lit_127, lit_139, lit_147, lit_180, lit_255, lit_1000, lit_1029, I_lt, I_le, I_eq, I_cl, I_inb, if_pos, if_neg, eq_self, Bool.false_eq_true, ite_true, ite_false, Int.zero_add, Int.add_zero, x_dPt]
  · refine X_th 2 (by unfold sp_asleep; (try simp only [Int.toNat_natCast]); rw [if_neg e1]; try rfl) ?_
    · rw [x_hour_n ha e1]
      simp (disch := omega) only [brn_if, grd_if, ↓bnd_some, bnd_some, bnd_if, bnd_none, J_at, I_add, I_sub, I_mul, I_neg, lit_0, lit_1, lit_2, lit_3, lit_4, lit_5, lit_6, lit_7, lit_8, lit_9, lit_10, lit_11, lit_12, lit_13, lit_14, lit_20, lit_23, lit_24, lit_32, lit_33, lit_35, lit_40, lit_43, lit_45, lit_46, lit_47, lit_48, lit_49, lit_50, lit_57, lit_58, lit_59, lit_60, lit_61, lit_63, lit_64, lit_77, lit_95, lit_98, lit_99, lit_101, lit_104, lit_111, lit_112, lit_114, lit_116, lit_122, lit_127, lit_139, lit_147, lit_180, lit_255, lit_1000, lit_1029, I_lt, I_le, I_eq, I_cl, I_inb, if_pos, if_neg, eq_self, Bool.false_eq_true, ite_true, ite_false, Int.zero_add, Int.add_zero, x_dPf]

theorem v_deepest (h : WF b σ) (T : TR σ v)  : F_X11_deepest (v.1 6) (v.2 1) (v.2 2) = some ((sp_deepest σ).1, I (sp_deepest σ).2) := by
  have hn := h.n
  rw [T.1.2.2.2.2.2.2.1]
  obtain ⟨D, hD⟩ : ∃ D, D = dpL σ 23 1 0 := ⟨_, rfl⟩
  have d1 := dpL_in σ 23 1 0 (by omega) (by omega) (by omega)
  have g2 := x_deepL h T 23 1 99 0 (by omega) (by omega) (by omega) (by omega)
  rw [← hD] at d1 g2
  have s1 := slC_in h 0
  have g0 : F_X2_deepestHour (I (σ 2)) (v.2 1) (v.2 2) = some (I (if slC σ D = 0 then -1 else D)) := by
    unfold F_X2_deepestHour
    rw [lit_0, m1, show (100 : Nat) = 99 + 1 from rfl, L_X2_deepestHour_6, x_sleepers h T.a1 T.a2 (t := 0) (by omega) (by omega), bnd_some, brn_neg _ _ (by rw [show (24 : Int32) = I 24 from rfl, I_le (by omega) (by omega) (by omega) (by omega)]; omega), lit_1, I_add]
    by_cases e : slC σ 0 = 0
    · rw [if_pos e, e] at g2
      rw [brn_pos _ _ (by rw [I_le (by omega) (by omega) (by omega) (by omega)]; omega)]
      exact g2
    · rw [if_neg e] at g2
      rw [brn_neg _ _ (by rw [I_le (by omega) (by omega) (by omega) (by omega)]; omega)]
      exact g2
  unfold F_X11_deepest J_X11_deepest_21
  rw [g0]
  by_cases e : slC σ D = 0
  · refine X_th 4 (by unfold sp_deepest; (try simp only [Int.toNat_natCast]); rw [if_pos (by rw [← hD]; exact e)]; try rfl) ?_
    rw [if_pos e]
    simp (disch := omega) only [brn_if, grd_if, ↓bnd_some, bnd_some, bnd_if, bnd_none, J_at, I_add, I_sub, I_mul, I_neg, lit_0, lit_1, lit_2, lit_3, lit_4, lit_5, lit_6, lit_7, lit_8, lit_9, lit_10, lit_11, lit_12, lit_13, lit_14, lit_20, lit_23, lit_24, lit_32, lit_33, lit_35, lit_40, lit_43, lit_45, lit_46, lit_47, lit_48, lit_49, lit_50, lit_57, lit_58, lit_59, lit_60, lit_61, lit_63, lit_64, lit_77, lit_95, lit_98, lit_99, lit_101, lit_104, lit_111, lit_112, lit_114, lit_116, lit_122, lit_127, lit_139, lit_147, lit_180, lit_255, lit_1000, lit_1029, I_lt, I_le, I_eq, I_cl, I_inb, if_pos, if_neg, eq_self, Bool.false_eq_true, ite_true, ite_false, Int.zero_add, Int.add_zero, m1, x_dFf]
  · refine X_ok D (by unfold sp_deepest; (try simp only [Int.toNat_natCast]); rw [if_neg (by rw [← hD]; exact e), ← hD]; try rfl) ?_
    rw [if_neg e]
    simp (disch := omega) only [brn_if, grd_if, ↓bnd_some, bnd_some, bnd_if, bnd_none, J_at, I_add, I_sub, I_mul, I_neg, lit_0, lit_1, lit_2, lit_3, lit_4, lit_5, lit_6, lit_7, lit_8, lit_9, lit_10, lit_11, lit_12, lit_13, lit_14, lit_20, lit_23, lit_24, lit_32, lit_33, lit_35, lit_40, lit_43, lit_45, lit_46, lit_47, lit_48, lit_49, lit_50, lit_57, lit_58, lit_59, lit_60, lit_61, lit_63, lit_64, lit_77, lit_95, lit_98, lit_99, lit_101, lit_104, lit_111, lit_112, lit_114, lit_116, lit_122, lit_127, lit_139, lit_147, lit_180, lit_255, lit_1000, lit_1029, I_lt, I_le, I_eq, I_cl, I_inb, if_pos, if_neg, eq_self, Bool.false_eq_true, ite_true, ite_false, Int.zero_add, Int.add_zero, m1, x_dFt]

def sp_fix (σ : Nat → Int) (a : Int) : Nat × Int := if σ 8 = 0 ∨ a < 0 ∨ fitI σ 64 0 a = -1 then (4, 0) else (0, fitI σ 64 0 a)

theorem v_fix (h : WF b σ) (T : TR σ v) {a : Int} (ha : InR a) : F_X11_fix (I a) (v.1 2) (v.1 8) (v.2 8) (v.2 9) (v.2 10) = some ((sp_fix σ a).1, I (sp_fix σ a).2) := by
  have hl := h.look
  rw [T.1.2.2.1, T.1.2.2.2.2.2.2.2.2]
  have gx : ∀ (r k f : Nat) (m : Int), k + r = 64 → r < f → 0 ≤ m → m ≤ k → L_X9_fitAt_4 (I a) (I (σ 4)) (v.2 8) (v.2 9) (v.2 10) f (I m) (I k) = some (I (fitI σ r k (a - m))) := by
    intro r
    induction r with
    | zero =>
      intro k f m hk hf h1 h2
      obtain ⟨f, rfl⟩ : ∃ g, f = g + 1 := ⟨f - 1, by omega⟩
      rw [L_X9_fitAt_4, fitI, m1]
      simp (disch := omega) only [brn_if, grd_if, ↓bnd_some, bnd_some, bnd_if, bnd_none, J_at, I_add, I_sub, I_mul, I_neg, lit_0, lit_1, lit_2, lit_3, lit_4, lit_5, lit_6, lit_7, lit_8, lit_9, lit_10, lit_11, lit_12, lit_13, lit_14, lit_20, lit_23, lit_24, lit_32, lit_33, lit_35, lit_40, lit_43, lit_45, lit_46, lit_47, lit_48, lit_49, lit_50, lit_57, lit_58, lit_59, lit_60, lit_61, lit_63, lit_64, lit_77, lit_95, lit_98, lit_99, lit_101, lit_104, lit_111, lit_112, lit_114, lit_116, lit_122, lit_127, lit_139, lit_147, lit_180, lit_255, lit_1000, lit_1029, I_lt, I_le, I_eq, I_cl, I_inb, if_pos, if_neg, eq_self, Bool.false_eq_true, ite_true, ite_false, Int.zero_add, Int.add_zero]
    | succ r ih =>
      intro k f m hk hf h1 h2
      obtain ⟨f, rfl⟩ : ∃ g, f = g + 1 := ⟨f - 1, by omega⟩
      rw [L_X9_fitAt_4, fitI, x_canBe h T.a8 T.a9 T.a10 (c := k) (by omega) (by omega)]
      cases hb : canB σ k
      · simp (disch := omega) only [brn_if, grd_if, ↓bnd_some, bnd_some, bnd_if, bnd_none, J_at, I_add, I_sub, I_mul, I_neg, lit_0, lit_1, lit_2, lit_3, lit_4, lit_5, lit_6, lit_7, lit_8, lit_9, lit_10, lit_11, lit_12, lit_13, lit_14, lit_20, lit_23, lit_24, lit_32, lit_33, lit_35, lit_40, lit_43, lit_45, lit_46, lit_47, lit_48, lit_49, lit_50, lit_57, lit_58, lit_59, lit_60, lit_61, lit_63, lit_64, lit_77, lit_95, lit_98, lit_99, lit_101, lit_104, lit_111, lit_112, lit_114, lit_116, lit_122, lit_127, lit_139, lit_147, lit_180, lit_255, lit_1000, lit_1029, I_lt, I_le, I_eq, I_cl, I_inb, if_pos, if_neg, eq_self, Bool.false_eq_true, ite_true, ite_false, Int.zero_add, Int.add_zero, bI_f, Bool.false_eq_true]
        exact ih (k + 1) f m (by omega) (by omega) (by omega) (by omega)
      · rw [if_pos rfl]
        by_cases e : m = a
        · simp (disch := omega) only [brn_if, grd_if, ↓bnd_some, bnd_some, bnd_if, bnd_none, J_at, I_add, I_sub, I_mul, I_neg, lit_0, lit_1, lit_2, lit_3, lit_4, lit_5, lit_6, lit_7, lit_8, lit_9, lit_10, lit_11, lit_12, lit_13, lit_14, lit_20, lit_23, lit_24, lit_32, lit_33, lit_35, lit_40, lit_43, lit_45, lit_46, lit_47, lit_48, lit_49, lit_50, lit_57, lit_58, lit_59, lit_60, lit_61, lit_63, lit_64, lit_77, lit_95, lit_98, lit_99, lit_101, lit_104, lit_111, lit_112, lit_114, lit_116, lit_122, lit_127, lit_139, lit_147, lit_180, lit_255, lit_1000, lit_1029, I_lt, I_le, I_eq, I_cl, I_inb, if_pos, if_neg, eq_self, Bool.false_eq_true, ite_true, ite_false, Int.zero_add, Int.add_zero, bI_t]
        · rw [if_neg (by omega)]
          simp (disch := omega) only [brn_if, grd_if, ↓bnd_some, bnd_some, bnd_if, bnd_none, J_at, I_add, I_sub, I_mul, I_neg, lit_0, lit_1, lit_2, lit_3, lit_4, lit_5, lit_6, lit_7, lit_8, lit_9, lit_10, lit_11, lit_12, lit_13, lit_14, lit_20, lit_23, lit_24, lit_32, lit_33, lit_35, lit_40, lit_43, lit_45, lit_46, lit_47, lit_48, lit_49, lit_50, lit_57, lit_58, lit_59, lit_60, lit_61, lit_63, lit_64, lit_77, lit_95, lit_98, lit_99, lit_101, lit_104, lit_111, lit_112, lit_114, lit_116, lit_122, lit_127, lit_139, lit_147, lit_180, lit_255, lit_1000, lit_1029, I_lt, I_le, I_eq, I_cl, I_inb, if_pos, if_neg, eq_self, Bool.false_eq_true, ite_true, ite_false, Int.zero_add, Int.add_zero, bI_t]
          rw [show a - m - 1 = a - (m + 1) by omega]
          exact ih (k + 1) f (m + 1) (by omega) (by omega) (by omega) (by omega)
  unfold F_X11_fix J_X11_fix_29 F_X9_hasPrank
  have g0 : F_X9_fitAt (I a) (I (σ 4)) (v.2 8) (v.2 9) (v.2 10) = some (I (fitI σ 64 0 a)) := by
    have := gx 64 0 100 0 (by omega) (by omega) (by omega) (by omega)
    rw [show a - 0 = a by omega] at this
    unfold F_X9_fitAt
    rw [lit_0]
    exact this
  by_cases e1 : σ 8 = 0
  · refine X_th 4 (by unfold sp_fix; rw [if_pos (Or.inl e1)]) ?_
    simp (disch := omega) only [brn_if, grd_if, ↓bnd_some, bnd_some, bnd_if, bnd_none, J_at, I_add, I_sub, I_mul, I_neg, lit_0, lit_1, lit_2, lit_3, lit_4, lit_5, lit_6, lit_7, lit_8, lit_9, lit_10, lit_11, lit_12, lit_13, lit_14, lit_20, lit_23, lit_24, lit_32, lit_33, lit_35, lit_40, lit_43, lit_45, lit_46, lit_47, lit_48, lit_49, lit_50, lit_57, lit_58, lit_59, lit_60, lit_61, lit_63, lit_64, lit_77, lit_95, lit_98, lit_99, lit_101, lit_104, lit_111, lit_112, lit_114, lit_116, lit_122, lit_127, lit_139, lit_147, lit_180, lit_255, lit_1000, lit_1029, I_lt, I_le, I_eq, I_cl, I_inb, if_pos, if_neg, eq_self, Bool.false_eq_true, ite_true, ite_false, Int.zero_add, Int.add_zero, m1, x_dFf]
  · by_cases e2 : a < 0
    · refine X_th 4 (by unfold sp_fix; rw [if_pos (Or.inr (Or.inl e2))]) ?_
      rw [g0, fitI_neg σ 64 0 a e2]
      simp (disch := omega) only [brn_if, grd_if, ↓bnd_some, bnd_some, bnd_if, bnd_none, J_at, I_add, I_sub, I_mul, I_neg, lit_0, lit_1, lit_2, lit_3, lit_4, lit_5, lit_6, lit_7, lit_8, lit_9, lit_10, lit_11, lit_12, lit_13, lit_14, lit_20, lit_23, lit_24, lit_32, lit_33, lit_35, lit_40, lit_43, lit_45, lit_46, lit_47, lit_48, lit_49, lit_50, lit_57, lit_58, lit_59, lit_60, lit_61, lit_63, lit_64, lit_77, lit_95, lit_98, lit_99, lit_101, lit_104, lit_111, lit_112, lit_114, lit_116, lit_122, lit_127, lit_139, lit_147, lit_180, lit_255, lit_1000, lit_1029, I_lt, I_le, I_eq, I_cl, I_inb, if_pos, if_neg, eq_self, Bool.false_eq_true, ite_true, ite_false, Int.zero_add, Int.add_zero, m1, x_dFt, x_dFf]
    · have g9 := fitI_in σ 64 0 a (by omega)
      by_cases e : fitI σ 64 0 a = -1
      · refine X_th 4 (by unfold sp_fix; rw [if_pos (Or.inr (Or.inr e))]) ?_
        rw [g0, e]
        simp (disch := omega) only [brn_if, grd_if, ↓bnd_some, bnd_some, bnd_if, bnd_none, J_at, I_add, I_sub, I_mul, I_neg, lit_0, lit_1, lit_2, lit_3, lit_4, lit_5, lit_6, lit_7, lit_8, lit_9, lit_10, lit_11, lit_12, lit_13, lit_14, lit_20, lit_23, lit_24, lit_32, lit_33, lit_35, lit_40, lit_43, lit_45, lit_46, lit_47, lit_48, lit_49, lit_50, lit_57, lit_58, lit_59, lit_60, lit_61, lit_63, lit_64, lit_77, lit_95, lit_98, lit_99, lit_101, lit_104, lit_111, lit_112, lit_114, lit_116, lit_122, lit_127, lit_139, lit_147, lit_180, lit_255, lit_1000, lit_1029, I_lt, I_le, I_eq, I_cl, I_inb, if_pos, if_neg, eq_self, Bool.false_eq_true, ite_true, ite_false, Int.zero_add, Int.add_zero, m1, x_dFt, x_dFf]
      · refine X_ok (fitI σ 64 0 a) (by unfold sp_fix; rw [if_neg (by omega)]) ?_
        rw [g0]
        simp (disch := omega) only [brn_if, grd_if, ↓bnd_some, bnd_some, bnd_if, bnd_none, J_at, I_add, I_sub, I_mul, I_neg, lit_0, lit_1, lit_2, lit_3, lit_4, lit_5, lit_6, lit_7, lit_8, lit_9, lit_10, lit_11, lit_12, lit_13, lit_14, lit_20, lit_23, lit_24, lit_32, lit_33, lit_35, lit_40, lit_43, lit_45, lit_46, lit_47, lit_48, lit_49, lit_50, lit_57, lit_58, lit_59, lit_60, lit_61, lit_63, lit_64, lit_77, lit_95, lit_98, lit_99, lit_101, lit_104, lit_111, lit_112, lit_114, lit_116, lit_122, lit_127, lit_139, lit_147, lit_180, lit_255, lit_1000, lit_1029, I_lt, I_le, I_eq, I_cl, I_inb, if_pos, if_neg, eq_self, Bool.false_eq_true, ite_true, ite_false, Int.zero_add, Int.add_zero, m1, x_dFt]

end VAL
