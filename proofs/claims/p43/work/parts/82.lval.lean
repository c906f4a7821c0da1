/-! ===== what the law's reading helpers answer ===== -/
def rc (s : Nat × Int) : Int := if s.1 = 0 then s.2 else if s.1 = 1 then -11 else if s.1 = 2 then -12 else -13
section LV
variable {b : Int} {σ : Nat → Int} {x : XVal}
theorem l_of (h : WF b σ) (T : TR σ (xT x)) {a f : Int} (ha : InR a) (hf : InR f) : F_L_of (I a) (I f) x = some (I (rc (sp_houseOf σ a f))) := by
  unfold F_L_of G_houseOf
  rw [show F_X11_houseOf (I a) (I f) (x.1 1) (x.1 7) (x.2.1 0) (x.2.1 1) (x.2.1 2) (x.2.1 3) (x.2.1 4) (x.1 8) (x.2.1 5) (x.2.1 6) (x.2.1 7) = _ from v_houseOf (v := xT x) h T ha hf, bnd_some, bnd_some]
  unfold sp_houseOf
  repeat' split
  all_goals rfl
theorem l_asleep (h : WF b σ) (T : TR σ (xT x)) {a f : Int} (ha : InR a) (hf : InR f) : F_L_asleep (I a) (I f) x = some (I (rc (sp_asleep σ a))) := by
  unfold F_L_asleep G_asleep
  rw [show F_X11_asleep (I a) (I f) (x.1 7) (x.2.1 1) (x.2.1 2) = _ from v_asleep (v := xT x) h T ha hf, bnd_some, bnd_some]
  unfold sp_asleep
  repeat' split
  all_goals rfl
theorem l_deepest (h : WF b σ) (T : TR σ (xT x))  : F_L_deepest  x = some (I (rc (sp_deepest σ))) := by
  unfold F_L_deepest G_deepest
  rw [show F_X11_deepest (x.1 7) (x.2.1 1) (x.2.1 2) = _ from v_deepest (v := xT x) h T, bnd_some, bnd_some]
  unfold sp_deepest
  repeat' split
  all_goals rfl
theorem l_classOf (h : WF b σ) (T : TR σ (xT x)) {a f u w : Int} (ha : InR a) (hf : InR f) (hu : InR u) (hw : InR w) : F_L_classOf (I a) (I f) (I u) (I w) x = some (I (rc (sp_classOf σ a f u w))) := by
  unfold F_L_classOf G_classOf
  rw [show F_X11_classOf (I a) (I f) (I u) (I w) (x.1 7) (x.2.1 1) (x.2.1 2) = _ from v_classOf (v := xT x) h T ha hf hu hw, bnd_some, bnd_some]
  unfold sp_classOf
  repeat' split
  all_goals rfl
theorem l_echo (h : WF b σ) (T : TR σ (xT x)) {a f u : Int} (ha : InR a) (hf : InR f) (hu : InR u) : F_L_echo (I a) (I f) (I u) x = some (I (rc (sp_echo σ a f u))) := by
  unfold F_L_echo G_echo
  rw [show F_X11_echo (I a) (I f) (I u) (x.1 7) (x.2.1 0) (x.1 8) (x.2.1 5) (x.2.1 6) (x.2.1 7) = _ from v_echo (v := xT x) h T ha hf hu, bnd_some, bnd_some]
  unfold sp_echo
  repeat' split
  all_goals rfl
theorem l_heard (h : WF b σ) (T : TR σ (xT x)) {a u w : Int} (ha : InR a) (hu : InR u) (hw : InR w) : F_L_heard (I a) (I u) (I w) x = some (I (rc (sp_heard σ a u w))) := by
  unfold F_L_heard G_heard
  rw [show F_X11_heard (I a) (I u) (I w) (x.1 7) (x.2.1 0) (x.1 8) (x.2.1 5) (x.2.1 6) (x.2.1 7) = _ from v_heard (v := xT x) h T ha hu hw, bnd_some, bnd_some]
  unfold sp_heard
  repeat' split
  all_goals rfl
theorem l_rings (h : WF b σ) (T : TR σ (xT x)) {a : Int} (ha : InR a) : F_L_rings (I a) x = some (I (rc (sp_rings σ a))) := by
  unfold F_L_rings G_rings
  rw [show F_X11_rings (I a) (x.2.1 11) = _ from v_rings (v := xT x) h T ha, bnd_some, bnd_some]
  unfold sp_rings
  repeat' split
  all_goals rfl
theorem l_postOf (h : WF b σ) (T : TR σ (xT x)) {a f : Int} (ha : InR a) (hf : InR f) : F_L_postOf (I a) (I f) x = some (I (rc (sp_postOf σ a f))) := by
  unfold F_L_postOf G_postOf
  rw [show F_X11_postOf (I a) (I f) (x.1 9) (x.2.1 8) (x.2.1 9) = _ from v_postOf (v := xT x) h T ha hf, bnd_some, bnd_some]
  unfold sp_postOf
  repeat' split
  all_goals rfl
theorem l_fits (h : WF b σ) (T : TR σ (xT x)) {a : Int} (ha : InR a) : F_L_fits (I a) x = some (I (rc (sp_fits σ a))) := by
  unfold F_L_fits G_fits
  rw [show F_X11_fits (I a) (x.1 3) (x.1 9) (x.2.1 8) (x.2.1 9) (x.2.1 10) = _ from v_fits (v := xT x) h T ha, bnd_some, bnd_some]
  unfold sp_fits
  repeat' split
  all_goals rfl
theorem l_fix (h : WF b σ) (T : TR σ (xT x)) {a : Int} (ha : InR a) : F_L_fix (I a) x = some (I (rc (sp_fix σ a))) := by
  unfold F_L_fix G_fix
  rw [show F_X11_fix (I a) (x.1 3) (x.1 9) (x.2.1 8) (x.2.1 9) (x.2.1 10) = _ from v_fix (v := xT x) h T ha, bnd_some, bnd_some]
  unfold sp_fix
  repeat' split
  all_goals rfl
theorem l_apart {a f : Int} (ha : InR a) (hf : InR f) : F_L_apart (I a) (I f) x = some (I (rc (sp_apart a f))) := by
  unfold F_L_apart G_apart
  rw [v_apart ha hf, bnd_some, bnd_some]
  unfold sp_apart
  repeat' split
  all_goals rfl
theorem l_acc (h : WF b σ) (T : TR σ (xT x)) (k : Nat) (hk : k ≤ 10) : G_account (I (k : Int)) x = some (0, I (aV σ 0 0 k), x) := by
  obtain ⟨pn, -, epn⟩ := I_ex (x.1 28)
  obtain ⟨on, -, eon⟩ := I_ex (x.1 32)
  unfold G_account
  rw [epn, eon, show F_X11_account (I (k : Int)) (x.1 1) (x.1 2) (x.1 3) (x.1 4) (x.1 5) (x.1 6) (x.1 7) (x.1 8) (x.1 9) (x.2.1 9) (x.2.1 10) (I pn) (I on) = _ from v_account h T (by omega), bnd_some]
  unfold sp_account
  rw [if_pos (by omega), Int.toNat_natCast]
  rcases (show k = 0 ∨ k = 1 ∨ k = 2 ∨ k = 3 ∨ k = 4 ∨ k = 5 ∨ k = 6 ∨ k = 7 ∨ k = 8 ∨ k = 9 ∨ k = 10 by omega) with rfl | rfl | rfl | rfl | rfl | rfl | rfl | rfl | rfl | rfl | rfl <;> rfl
theorem l_of0 (h : WF b σ) (T : TR σ (xT x)) {i : Nat} (hi : (i : Int) < σ 2) : F_L_of (I i) (0 : Int32) x = some (I (σ (77 + 5 * i))) := by
  have hn := h.n
  rw [show (0 : Int32) = I 0 from rfl, l_of h T (by omega) (by omega)]
  unfold sp_houseOf
  rw [if_pos (by omega), if_pos (by omega)]
  rfl
theorem l_of1 (h : WF b σ) (T : TR σ (xT x)) {i : Nat} (hi : (i : Int) < σ 2) : F_L_of (I i) (1 : Int32) x = some (I (σ (78 + 5 * i))) := by
  have hn := h.n
  rw [show (1 : Int32) = I 1 from rfl, l_of h T (by omega) (by omega)]
  unfold sp_houseOf
  rw [if_pos (by omega), if_pos (by omega)]
  rfl
theorem l_of2 (h : WF b σ) (T : TR σ (xT x)) {i : Nat} (hi : (i : Int) < σ 2) : F_L_of (I i) (2 : Int32) x = some (I (σ (79 + 5 * i))) := by
  have hn := h.n
  rw [show (2 : Int32) = I 2 from rfl, l_of h T (by omega) (by omega)]
  unfold sp_houseOf
  rw [if_pos (by omega), if_pos (by omega)]
  rfl
theorem l_of3 (h : WF b σ) (T : TR σ (xT x)) {i : Nat} (hi : (i : Int) < σ 2) : F_L_of (I i) (3 : Int32) x = some (I (σ (80 + 5 * i))) := by
  have hn := h.n
  rw [show (3 : Int32) = I 3 from rfl, l_of h T (by omega) (by omega)]
  unfold sp_houseOf
  rw [if_pos (by omega), if_pos (by omega)]
  rfl
theorem l_of4 (h : WF b σ) (T : TR σ (xT x)) {i : Nat} (hi : (i : Int) < σ 2) : F_L_of (I i) (4 : Int32) x = some (I (σ (81 + 5 * i))) := by
  have hn := h.n
  rw [show (4 : Int32) = I 4 from rfl, l_of h T (by omega) (by omega)]
  unfold sp_houseOf
  rw [if_pos (by omega), if_pos (by omega)]
  rfl
theorem l_of5 (h : WF b σ) (T : TR σ (xT x)) {i : Nat} (hi : (i : Int) < σ 2) : F_L_of (I i) (5 : Int32) x = some (I (lOn σ (σ (77 + 5 * i)))) := by
  have hn := h.n
  rw [show (5 : Int32) = I 5 from rfl, l_of h T (by omega) (by omega)]
  unfold sp_houseOf
  rw [if_pos (by omega), if_pos (by omega)]
  rfl
theorem l_of6 (h : WF b σ) (T : TR σ (xT x)) {i : Nat} (hi : (i : Int) < σ 2) : F_L_of (I i) (6 : Int32) x = some (I (if slB σ i (σ 0) = true then 1 else 0)) := by
  have hn := h.n
  rw [show (6 : Int32) = I 6 from rfl, l_of h T (by omega) (by omega)]
  unfold sp_houseOf
  rw [if_pos (by omega), if_pos (by omega)]
  rfl
theorem l_of7 (h : WF b σ) (T : TR σ (xT x)) {i : Nat} (hi : (i : Int) < σ 2) : F_L_of (I i) (7 : Int32) x = some (I (slN σ i)) := by
  have hn := h.n
  rw [show (7 : Int32) = I 7 from rfl, l_of h T (by omega) (by omega)]
  unfold sp_houseOf
  rw [if_pos (by omega), if_pos (by omega)]
  rfl
theorem l_of8 (h : WF b σ) (T : TR σ (xT x)) {i : Nat} (hi : (i : Int) < σ 2) : F_L_of (I i) (8 : Int32) x = some (I (-12)) := by
  have hn := h.n
  rw [show (8 : Int32) = I 8 from rfl, l_of h T (by omega) (by omega)]
  unfold sp_houseOf
  rw [if_pos (by omega), if_neg (by omega)]
  rfl
theorem l_ofN (h : WF b σ) (T : TR σ (xT x)) {f : Int} (hf : InR f) : F_L_of (I (σ 2)) (I f) x = some (I (-11)) := by
  have hn := h.n
  rw [l_of h T (by omega) hf]
  unfold sp_houseOf
  rw [if_neg (by omega)]
  rfl
theorem l_acc0 (h : WF b σ) (T : TR σ (xT x)) : G_account (0 : Int32) x = some (0, I (σ 0), x) := l_acc h T 0 (by omega)
theorem l_acc1 (h : WF b σ) (T : TR σ (xT x)) : G_account (1 : Int32) x = some (0, I (σ 1), x) := l_acc h T 1 (by omega)
theorem l_acc2 (h : WF b σ) (T : TR σ (xT x)) : G_account (2 : Int32) x = some (0, I (σ 2), x) := l_acc h T 2 (by omega)
theorem l_acc3 (h : WF b σ) (T : TR σ (xT x)) : G_account (3 : Int32) x = some (0, I (σ 3), x) := l_acc h T 3 (by omega)
theorem l_acc4 (h : WF b σ) (T : TR σ (xT x)) : G_account (4 : Int32) x = some (0, I (σ 4), x) := l_acc h T 4 (by omega)
theorem l_acc5 (h : WF b σ) (T : TR σ (xT x)) : G_account (5 : Int32) x = some (0, I (telN σ), x) := l_acc h T 5 (by omega)
theorem l_acc6 (h : WF b σ) (T : TR σ (xT x)) : G_account (6 : Int32) x = some (0, I (blkN σ), x) := l_acc h T 6 (by omega)
theorem l_acc7 (h : WF b σ) (T : TR σ (xT x)) : G_account (7 : Int32) x = some (0, I (σ 5), x) := l_acc h T 7 (by omega)
theorem l_acc8 (h : WF b σ) (T : TR σ (xT x)) : G_account (8 : Int32) x = some (0, I (σ 6), x) := l_acc h T 8 (by omega)
theorem l_acc9 (h : WF b σ) (T : TR σ (xT x)) : G_account (9 : Int32) x = some (0, I (σ 7), x) := l_acc h T 9 (by omega)
theorem l_acc10 (h : WF b σ) (T : TR σ (xT x)) : G_account (10 : Int32) x = some (0, I (σ 8 - 1), x) := l_acc h T 10 (by omega)
theorem sl_hour : ∀ f, f < 24 → ∀ t, t < 24 → ∀ k, k < 24 → (md (((k : Nat) : Int) - ((f : Nat) : Int) + 24) 24 < md (((t : Nat) : Int) - ((f : Nat) : Int) + 24) 24 ↔ (if f ≤ t then f ≤ k ∧ k < t else f ≤ k ∨ k < t)) := by
  intro f hf t ht k hk
  unfold md
  split <;> omega
theorem slB_iff (h : WF b σ) {i : Nat} (hi : (i : Int) < σ 2) {k : Int} (h1 : 0 ≤ k) (h2 : k ≤ 23) : slB σ i k = true ↔ (if σ (78 + 5 * i) ≤ σ (79 + 5 * i) then σ (78 + 5 * i) ≤ k ∧ k < σ (79 + 5 * i) else σ (78 + 5 * i) ≤ k ∨ k < σ (79 + 5 * i)) := by
  have hc := h.house hi
  unfold slB slN md
  rw [decide_eq_true_iff]
  split <;> omega
theorem l_sleeps (h : WF b σ) (T : TR σ (xT x)) {i : Nat} (hi : (i : Int) < σ 2) {k : Int} (h1 : 0 ≤ k) (h2 : k ≤ 23) : F_L_sleeps (I i) (I k) x = some (I (if slB σ i k = true then 1 else 0)) := by
  have hc := h.house hi
  have hb := slB_iff h hi h1 h2
  unfold F_L_sleeps
  rw [l_of1 h T hi, bnd_some, l_of2 h T hi, bnd_some]
  by_cases e1 : σ (79 + 5 * i) < σ (78 + 5 * i)
  · rw [if_neg (by omega)] at hb
    rw [brn_pos _ _ (by rw [I_lt (by omega) (by omega) (by omega) (by omega)]; exact e1)]
    by_cases e2 : σ (78 + 5 * i) ≤ k
    · rw [brn_pos _ _ (by rw [I_le (by omega) (by omega) (by omega) (by omega)]; exact e2), if_pos (hb.mpr (Or.inl e2))]
      rfl
    · rw [brn_neg _ _ (by rw [I_le (by omega) (by omega) (by omega) (by omega)]; exact e2)]
      by_cases e3 : σ (79 + 5 * i) ≤ k
      · rw [brn_pos _ _ (by rw [I_le (by omega) (by omega) (by omega) (by omega)]; exact e3), if_neg (fun q => by have := hb.mp q; omega)]
        rfl
      · rw [brn_neg _ _ (by rw [I_le (by omega) (by omega) (by omega) (by omega)]; exact e3), if_pos (hb.mpr (Or.inr (by omega)))]
        rfl
  · rw [if_pos (by omega)] at hb
    rw [brn_neg _ _ (by rw [I_lt (by omega) (by omega) (by omega) (by omega)]; exact e1)]
    by_cases e2 : k < σ (78 + 5 * i)
    · rw [brn_pos _ _ (by rw [I_lt (by omega) (by omega) (by omega) (by omega)]; exact e2), if_neg (fun q => by have := hb.mp q; omega)]
      rfl
    · rw [brn_neg _ _ (by rw [I_lt (by omega) (by omega) (by omega) (by omega)]; exact e2)]
      by_cases e3 : σ (79 + 5 * i) ≤ k
      · rw [brn_pos _ _ (by rw [I_le (by omega) (by omega) (by omega) (by omega)]; exact e3), if_neg (fun q => by have := hb.mp q; omega)]
        rfl
      · rw [brn_neg _ _ (by rw [I_le (by omega) (by omega) (by omega) (by omega)]; exact e3), if_pos (hb.mpr (by omega))]
        rfl
theorem l_inH (h : WF b σ) (T : TR σ (xT x)) {i j : Nat} (hi : (i : Int) < σ 2) (hj : (j : Int) < σ 2) : F_L_areInHall (I i) (I j) x = some (I (if inH σ i j = true then 1 else 0)) := by
  have hn := h.n
  have hm := h.m
  have a1 := lOn_in h (σ (77 + 5 * i))
  have a2 := lOn_in h (σ (77 + 5 * j))
  unfold F_L_areInHall inH
  by_cases e : i = j
  · subst e
    rw [brn_pos _ _ rfl, if_neg (by simp)]
    rfl
  · rw [brn_neg _ _ (by rw [I_eq (by omega) (by omega) (by omega) (by omega)]; omega), l_of5 h T hi, bnd_some]
    by_cases e2 : lOn σ (σ (77 + 5 * i)) < 0
    · rw [brn_pos _ _ (by rw [lit_0, I_lt (by omega) (by omega) (by omega) (by omega)]; exact e2), if_neg (by simp; omega)]
      rfl
    · rw [brn_neg _ _ (by rw [lit_0, I_lt (by omega) (by omega) (by omega) (by omega)]; exact e2), bnd_some, l_of5 h T hj, bnd_some]
      by_cases e3 : lOn σ (σ (77 + 5 * i)) = lOn σ (σ (77 + 5 * j))
      · rw [brn_pos _ _ (by rw [I_eq (by omega) (by omega) (by omega) (by omega)]; exact e3), if_pos (by simp; omega)]
        rfl
      · rw [brn_neg _ _ (by rw [I_eq (by omega) (by omega) (by omega) (by omega)]; exact e3), if_neg (by simp; omega)]
        rfl
theorem l_far {c d : Int} (h1 : 0 ≤ c) (h2 : c ≤ 63) (h3 : 0 ≤ d) (h4 : d ≤ 63) : F_L_far (I c) (I d) = some (I (far c d)) := by
  have : ∀ c, c < 64 → ∀ d, d < 64 → F_L_far (I ((c : Nat) : Int)) (I ((d : Nat) : Int)) = some (I (far c d)) := by decide +kernel
  have := this c.toNat (by omega) d.toNat (by omega)
  rw [show ((c.toNat : Nat) : Int) = c by omega, show ((d.toNat : Nat) : Int) = d by omega] at this
  exact this
theorem l_kind (h : WF b σ) (T : TR σ (xT x)) {i : Nat} (hi : (i : Int) < σ 2) {k u w : Int} (h1 : 0 ≤ k) (h2 : k ≤ 23) (h3 : 0 ≤ u) (h4 : u ≤ 9) (h5 : 0 ≤ w) (h6 : w ≤ 9) (h7 : 0 < u + w) : F_L_kind (I i) (I k) (I u) (I w) x = some (I (kd σ i k u w)) := by
  unfold F_L_kind J_L_kind_15 J_L_kind_19 J_L_kind_20 J_L_kind_42 kd
  rw [l_sleeps h T hi h1 h2]
  by_cases e1 : w = 0
  · subst e1
    rcases (show u = 1 ∨ u = 2 ∨ 2 < u by omega) with rfl | rfl | e2
    · cases hb : slB σ i k <;> rfl
    · cases hb : slB σ i k <;> rfl
    · simp (disch := omega) only [brn_if, grd_if, ↓bnd_some, bnd_some, bnd_if, bnd_none, J_at, I_add, I_sub, I_mul, I_neg, lit_0, lit_1, lit_2, lit_3, lit_4, lit_5, lit_6, lit_7, lit_8, lit_9, lit_10, lit_11, lit_12, lit_13, lit_14, lit_20, lit_23, lit_24, lit_32, lit_33, lit_35, lit_40, lit_43, lit_45, lit_46, lit_47, lit_48, lit_49, lit_50, lit_57, lit_58, lit_59, lit_60, lit_61, lit_63, lit_64, lit_77, lit_95, lit_98, lit_99, lit_101, lit_104, lit_111, lit_112, lit_114, lit_116, lit_122, lit_127, lit_139, lit_147, lit_180, lit_255, lit_1000, lit_1029, I_lt, I_le, I_eq, I_cl, I_inb, if_pos, if_neg, eq_self, Bool.false_eq_true, ite_true, ite_false, Int.zero_add, Int.add_zero]
  · simp (disch := omega) only [brn_if, grd_if, ↓bnd_some, bnd_some, bnd_if, bnd_none, J_at, I_add, I_sub, I_mul, I_neg, lit_0, lit_1, lit_2, lit_3, lit_4, lit_5, lit_6, lit_7, lit_8, lit_9, lit_10, lit_11, lit_12, lit_13, lit_14, lit_20, lit_23, lit_24, lit_32, lit_33, lit_35, lit_40, lit_43, lit_45, lit_46, lit_47, lit_48, lit_49, lit_50, lit_57, lit_58, lit_59, lit_60, lit_61, lit_63, lit_64, lit_77, lit_95, lit_98, lit_99, lit_101, lit_104, lit_111, lit_112, lit_114, lit_116, lit_122, lit_127, lit_139, lit_147, lit_180, lit_255, lit_1000, lit_1029, I_lt, I_le, I_eq, I_cl, I_inb, if_pos, if_neg, eq_self, Bool.false_eq_true, ite_true, ite_false, Int.zero_add, Int.add_zero]
    by_cases e2 : u = 0
    · simp (disch := omega) only [brn_if, grd_if, ↓bnd_some, bnd_some, bnd_if, bnd_none, J_at, I_add, I_sub, I_mul, I_neg, lit_0, lit_1, lit_2, lit_3, lit_4, lit_5, lit_6, lit_7, lit_8, lit_9, lit_10, lit_11, lit_12, lit_13, lit_14, lit_20, lit_23, lit_24, lit_32, lit_33, lit_35, lit_40, lit_43, lit_45, lit_46, lit_47, lit_48, lit_49, lit_50, lit_57, lit_58, lit_59, lit_60, lit_61, lit_63, lit_64, lit_77, lit_95, lit_98, lit_99, lit_101, lit_104, lit_111, lit_112, lit_114, lit_116, lit_122, lit_127, lit_139, lit_147, lit_180, lit_255, lit_1000, lit_1029, I_lt, I_le, I_eq, I_cl, I_inb, if_pos, if_neg, eq_self, Bool.false_eq_true, ite_true, ite_false, Int.zero_add, Int.add_zero]
      by_cases e3 : w < 3
      · simp (disch := omega) only [brn_if, grd_if, ↓bnd_some, bnd_some, bnd_if, bnd_none, J_at, I_add, I_sub, I_mul, I_neg, lit_0, lit_1, lit_2, lit_3, lit_4, lit_5, lit_6, lit_7, lit_8, lit_9, lit_10, lit_11, lit_12, lit_13, lit_14, lit_20, lit_23, lit_24, lit_32, lit_33, lit_35, lit_40, lit_43, lit_45, lit_46, lit_47, lit_48, lit_49, lit_50, lit_57, lit_58, lit_59, lit_60, lit_61, lit_63, lit_64, lit_77, lit_95, lit_98, lit_99, lit_101, lit_104, lit_111, lit_112, lit_114, lit_116, lit_122, lit_127, lit_139, lit_147, lit_180, lit_255, lit_1000, lit_1029, I_lt, I_le, I_eq, I_cl, I_inb, if_pos, if_neg, eq_self, Bool.false_eq_true, ite_true, ite_false, Int.zero_add, Int.add_zero]
      · simp (disch := omega) only [brn_if, grd_if, ↓bnd_some, bnd_some, bnd_if, bnd_none, J_at, I_add, I_sub, I_mul, I_neg, lit_0, lit_1, lit_2, lit_3, lit_4, lit_5, lit_6, lit_7, lit_8, lit_9, lit_10, lit_11, lit_12, lit_13, lit_14, lit_20, lit_23, lit_24, lit_32, lit_33, lit_35, lit_40, lit_43, lit_45, lit_46, lit_47, lit_48, lit_49, lit_50, lit_57, lit_58, lit_59, lit_60, lit_61, lit_63, lit_64, lit_77, lit_95, lit_98, lit_99, lit_101, lit_104, lit_111, lit_112, lit_114, lit_116, lit_122, lit_127, lit_139, lit_147, lit_180, lit_255, lit_1000, lit_1029, I_lt, I_le, I_eq, I_cl, I_inb, if_pos, if_neg, eq_self, Bool.false_eq_true, ite_true, ite_false, Int.zero_add, Int.add_zero]
    · simp (disch := omega) only [brn_if, grd_if, ↓bnd_some, bnd_some, bnd_if, bnd_none, J_at, I_add, I_sub, I_mul, I_neg, lit_0, lit_1, lit_2, lit_3, lit_4, lit_5, lit_6, lit_7, lit_8, lit_9, lit_10, lit_11, lit_12, lit_13, lit_14, lit_20, lit_23, lit_24, lit_32, lit_33, lit_35, lit_40, lit_43, lit_45, lit_46, lit_47, lit_48, lit_49, lit_50, lit_57, lit_58, lit_59, lit_60, lit_61, lit_63, lit_64, lit_77, lit_95, lit_98, lit_99, lit_101, lit_104, lit_111, lit_112, lit_114, lit_116, lit_122, lit_127, lit_139, lit_147, lit_180, lit_255, lit_1000, lit_1029, I_lt, I_le, I_eq, I_cl, I_inb, if_pos, if_neg, eq_self, Bool.false_eq_true, ite_true, ite_false, Int.zero_add, Int.add_zero]
end LV
