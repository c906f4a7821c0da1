/-! ===== the class: rows, grid ===== -/
/-- the row's first n places are f's -/
def AR (a : Nat → Int32) (f : Nat → Int) (n : Int) : Prop := ∀ i : Nat, (i : Int) < n → a i = I (f i)
theorem oN (n : Nat) : Int32.ofNat n = I n := Int32.ofInt_eq_ofNat.symm
theorem m1 : ((-1) : Int32) = I (-1) := by decide
section CL1
theorem x_at {N : Nat} (hN : N < 2000) {a : Nat → Int32} {f : Nat → Int} {n : Int} (h : AR a f n) {i : Nat} (hi : (i : Int) < n) (hn : n ≤ N) : F_X7_at N (I i) a = some (I (f i)) := by
  unfold F_X7_at
  rw [oN]
  simp (disch := omega) only [brn_if, grd_if, ↓bnd_some, bnd_some, bnd_if, bnd_none, J_at, I_add, I_sub, I_mul, I_neg, lit_0, lit_1, lit_2, lit_3, lit_4, lit_5, lit_6, lit_7, lit_8, lit_9, lit_10, lit_11, lit_12, lit_13, lit_14, lit_20, lit_23, lit_24, lit_32, lit_33, lit_35, lit_40, lit_43, lit_45, lit_46, lit_47, lit_48, lit_49, lit_50, lit_57, lit_58, lit_59, lit_60, lit_61, lit_63, lit_64, lit_77, lit_95, lit_98, lit_99, lit_101, lit_104, lit_111, lit_112, lit_114, lit_116, lit_122, lit_127, lit_139, lit_147, lit_180, lit_255, lit_1000, lit_1029, I_lt, I_le, I_eq, I_cl, I_inb, if_pos, if_neg, eq_self, ite_true, ite_false, Int.zero_add, Int.add_zero]
  rw [show ((i : Int)).toNat = i from rfl, h i hi]
theorem x_at0 {N : Nat} (hN : N < 2000) {a : Nat → Int32} {i : Nat} (hi : i < N) : F_X7_at N (I i) a = some (a i) := by
  unfold F_X7_at
  rw [oN]
  simp (disch := omega) only [brn_if, grd_if, ↓bnd_some, bnd_some, bnd_if, bnd_none, J_at, I_add, I_sub, I_mul, I_neg, lit_0, lit_1, lit_2, lit_3, lit_4, lit_5, lit_6, lit_7, lit_8, lit_9, lit_10, lit_11, lit_12, lit_13, lit_14, lit_20, lit_23, lit_24, lit_32, lit_33, lit_35, lit_40, lit_43, lit_45, lit_46, lit_47, lit_48, lit_49, lit_50, lit_57, lit_58, lit_59, lit_60, lit_61, lit_63, lit_64, lit_77, lit_95, lit_98, lit_99, lit_101, lit_104, lit_111, lit_112, lit_114, lit_116, lit_122, lit_127, lit_139, lit_147, lit_180, lit_255, lit_1000, lit_1029, I_lt, I_le, I_eq, I_cl, I_inb, if_pos, if_neg, eq_self, ite_true, ite_false, Int.zero_add, Int.add_zero]
  rfl
theorem x_atO {N : Nat} (hN : N < 2000) {a : Nat → Int32} {z : Int} (hz : InR z) (h : z < 0 ∨ N ≤ z) : F_X7_at N (I z) a = some (I (-1)) := by
  unfold F_X7_at
  rw [oN]
  rcases h with h | h
  · simp (disch := omega) only [brn_if, grd_if, ↓bnd_some, bnd_some, bnd_if, bnd_none, J_at, I_add, I_sub, I_mul, I_neg, lit_0, lit_1, lit_2, lit_3, lit_4, lit_5, lit_6, lit_7, lit_8, lit_9, lit_10, lit_11, lit_12, lit_13, lit_14, lit_20, lit_23, lit_24, lit_32, lit_33, lit_35, lit_40, lit_43, lit_45, lit_46, lit_47, lit_48, lit_49, lit_50, lit_57, lit_58, lit_59, lit_60, lit_61, lit_63, lit_64, lit_77, lit_95, lit_98, lit_99, lit_101, lit_104, lit_111, lit_112, lit_114, lit_116, lit_122, lit_127, lit_139, lit_147, lit_180, lit_255, lit_1000, lit_1029, I_lt, I_le, I_eq, I_cl, I_inb, if_pos, if_neg, eq_self, ite_true, ite_false, Int.zero_add, Int.add_zero]
  · simp (disch := omega) only [brn_if, grd_if, ↓bnd_some, bnd_some, bnd_if, bnd_none, J_at, I_add, I_sub, I_mul, I_neg, lit_0, lit_1, lit_2, lit_3, lit_4, lit_5, lit_6, lit_7, lit_8, lit_9, lit_10, lit_11, lit_12, lit_13, lit_14, lit_20, lit_23, lit_24, lit_32, lit_33, lit_35, lit_40, lit_43, lit_45, lit_46, lit_47, lit_48, lit_49, lit_50, lit_57, lit_58, lit_59, lit_60, lit_61, lit_63, lit_64, lit_77, lit_95, lit_98, lit_99, lit_101, lit_104, lit_111, lit_112, lit_114, lit_116, lit_122, lit_127, lit_139, lit_147, lit_180, lit_255, lit_1000, lit_1029, I_lt, I_le, I_eq, I_cl, I_inb, if_pos, if_neg, eq_self, ite_true, ite_false, Int.zero_add, Int.add_zero]
theorem x_put {N : Nat} (hN : N < 2000) {a : Nat → Int32} {i : Nat} (hi : i < N) (v : Int32) : F_X7_put N (I i) v a = some (upd a i v) := by
  unfold F_X7_put
  rw [oN]
  simp (disch := omega) only [brn_if, grd_if, ↓bnd_some, bnd_some, bnd_if, bnd_none, J_at, I_add, I_sub, I_mul, I_neg, lit_0, lit_1, lit_2, lit_3, lit_4, lit_5, lit_6, lit_7, lit_8, lit_9, lit_10, lit_11, lit_12, lit_13, lit_14, lit_20, lit_23, lit_24, lit_32, lit_33, lit_35, lit_40, lit_43, lit_45, lit_46, lit_47, lit_48, lit_49, lit_50, lit_57, lit_58, lit_59, lit_60, lit_61, lit_63, lit_64, lit_77, lit_95, lit_98, lit_99, lit_101, lit_104, lit_111, lit_112, lit_114, lit_116, lit_122, lit_127, lit_139, lit_147, lit_180, lit_255, lit_1000, lit_1029, I_lt, I_le, I_eq, I_cl, I_inb, if_pos, if_neg, eq_self, ite_true, ite_false, Int.zero_add, Int.add_zero]
  rfl
theorem x_putO {N : Nat} (hN : N < 2000) {a : Nat → Int32} {z : Int} (hz : InR z) (h : z < 0 ∨ N ≤ z) (v : Int32) : F_X7_put N (I z) v a = some a := by
  unfold F_X7_put
  rw [oN]
  rcases h with h | h
  · simp (disch := omega) only [brn_if, grd_if, ↓bnd_some, bnd_some, bnd_if, bnd_none, J_at, I_add, I_sub, I_mul, I_neg, lit_0, lit_1, lit_2, lit_3, lit_4, lit_5, lit_6, lit_7, lit_8, lit_9, lit_10, lit_11, lit_12, lit_13, lit_14, lit_20, lit_23, lit_24, lit_32, lit_33, lit_35, lit_40, lit_43, lit_45, lit_46, lit_47, lit_48, lit_49, lit_50, lit_57, lit_58, lit_59, lit_60, lit_61, lit_63, lit_64, lit_77, lit_95, lit_98, lit_99, lit_101, lit_104, lit_111, lit_112, lit_114, lit_116, lit_122, lit_127, lit_139, lit_147, lit_180, lit_255, lit_1000, lit_1029, I_lt, I_le, I_eq, I_cl, I_inb, if_pos, if_neg, eq_self, ite_true, ite_false, Int.zero_add, Int.add_zero]
  · simp (disch := omega) only [brn_if, grd_if, ↓bnd_some, bnd_some, bnd_if, bnd_none, J_at, I_add, I_sub, I_mul, I_neg, lit_0, lit_1, lit_2, lit_3, lit_4, lit_5, lit_6, lit_7, lit_8, lit_9, lit_10, lit_11, lit_12, lit_13, lit_14, lit_20, lit_23, lit_24, lit_32, lit_33, lit_35, lit_40, lit_43, lit_45, lit_46, lit_47, lit_48, lit_49, lit_50, lit_57, lit_58, lit_59, lit_60, lit_61, lit_63, lit_64, lit_77, lit_95, lit_98, lit_99, lit_101, lit_104, lit_111, lit_112, lit_114, lit_116, lit_122, lit_127, lit_139, lit_147, lit_180, lit_255, lit_1000, lit_1029, I_lt, I_le, I_eq, I_cl, I_inb, if_pos, if_neg, eq_self, ite_true, ite_false, Int.zero_add, Int.add_zero]
theorem AR_at {a : Nat → Int32} {f : Nat → Int} {n : Int} (h : AR a f n) {i : Nat} (hi : (i : Int) < n) : a i = I (f i) := h i hi
theorem AR_upd {a : Nat → Int32} {f : Nat → Int} {n : Int} (h : AR a f n) (i : Nat) (v : Int) : AR (upd a i (I v)) (U f i v) n := by
  intro j hj
  unfold upd U
  split
  · rfl
  · exact h j hj
theorem x_placeOf {N : Nat} (hN : N < 64) {a : Nat → Int32} {f : Nat → Int} {n c : Int} (h : AR a f n) (h0 : 0 ≤ n) (hn : n ≤ N) (hf : ∀ k, InR (f k)) (hc : InR c) : F_X7_placeOf N (I n) (I c) a = some (I (fIx (fun i => decide (f i = c)) n.toNat 0)) := by
  have go : ∀ (r k t : Nat), (k : Int) + r = n → r < t → L_X7_placeOf_2 N (I n) (I c) a t (I k) = some (I (fIx (fun i => decide (f i = c)) r k)) := by
    intro r
    induction r with
    | zero =>
      intro k t hk ht
      obtain ⟨t, rfl⟩ : ∃ g, t = g + 1 := ⟨t - 1, by omega⟩
      rw [L_X7_placeOf_2, oN, fIx]
      simp (disch := omega) only [brn_if, grd_if, ↓bnd_some, bnd_some, bnd_if, bnd_none, J_at, I_add, I_sub, I_mul, I_neg, lit_0, lit_1, lit_2, lit_3, lit_4, lit_5, lit_6, lit_7, lit_8, lit_9, lit_10, lit_11, lit_12, lit_13, lit_14, lit_20, lit_23, lit_24, lit_32, lit_33, lit_35, lit_40, lit_43, lit_45, lit_46, lit_47, lit_48, lit_49, lit_50, lit_57, lit_58, lit_59, lit_60, lit_61, lit_63, lit_64, lit_77, lit_95, lit_98, lit_99, lit_101, lit_104, lit_111, lit_112, lit_114, lit_116, lit_122, lit_127, lit_139, lit_147, lit_180, lit_255, lit_1000, lit_1029, I_lt, I_le, I_eq, I_cl, I_inb, if_pos, if_neg, eq_self, ite_true, ite_false, Int.zero_add, Int.add_zero]
    | succ r ih =>
      intro k t hk ht
      obtain ⟨t, rfl⟩ : ∃ g, t = g + 1 := ⟨t - 1, by omega⟩
      have hk2 := h k (by omega)
      have hr := hf k
      rw [L_X7_placeOf_2, oN, fIx]
      rw [lit_1, I_add, show ((k : Int) + 1) = ((k + 1 : Nat) : Int) by omega, ih (k + 1) t (by omega) (by omega)]
      by_cases e : f k = c
      · simp (disch := omega) only [brn_if, grd_if, ↓bnd_some, bnd_some, bnd_if, bnd_none, J_at, I_add, I_sub, I_mul, I_neg, lit_0, lit_1, lit_2, lit_3, lit_4, lit_5, lit_6, lit_7, lit_8, lit_9, lit_10, lit_11, lit_12, lit_13, lit_14, lit_20, lit_23, lit_24, lit_32, lit_33, lit_35, lit_40, lit_43, lit_45, lit_46, lit_47, lit_48, lit_49, lit_50, lit_57, lit_58, lit_59, lit_60, lit_61, lit_63, lit_64, lit_77, lit_95, lit_98, lit_99, lit_101, lit_104, lit_111, lit_112, lit_114, lit_116, lit_122, lit_127, lit_139, lit_147, lit_180, lit_255, lit_1000, lit_1029, I_lt, I_le, I_eq, I_cl, I_inb, if_pos, if_neg, eq_self, ite_true, ite_false, Int.zero_add, Int.add_zero, hk2, decide_eq_true_eq, Int.toNat_natCast]
      · simp (disch := omega) only [brn_if, grd_if, ↓bnd_some, bnd_some, bnd_if, bnd_none, J_at, I_add, I_sub, I_mul, I_neg, lit_0, lit_1, lit_2, lit_3, lit_4, lit_5, lit_6, lit_7, lit_8, lit_9, lit_10, lit_11, lit_12, lit_13, lit_14, lit_20, lit_23, lit_24, lit_32, lit_33, lit_35, lit_40, lit_43, lit_45, lit_46, lit_47, lit_48, lit_49, lit_50, lit_57, lit_58, lit_59, lit_60, lit_61, lit_63, lit_64, lit_77, lit_95, lit_98, lit_99, lit_101, lit_104, lit_111, lit_112, lit_114, lit_116, lit_122, lit_127, lit_139, lit_147, lit_180, lit_255, lit_1000, lit_1029, I_lt, I_le, I_eq, I_cl, I_inb, if_pos, if_neg, eq_self, ite_true, ite_false, Int.zero_add, Int.add_zero, hk2, decide_eq_true_eq, Int.toNat_natCast]
  have := go n.toNat 0 100 (by omega) (by omega)
  unfold F_X7_placeOf
  rw [lit_0]
  exact this
theorem x_closeGap {N : Nat} (hN : N < 64) (a : Nat → Int32) {g : Int} (h0 : 0 ≤ g) (hg : g < 2147483648) : ∃ a', F_X7_closeGap N (I g) a = some a' ∧ ∀ i : Nat, a' i = if g ≤ i ∧ i + 1 < N then a (i + 1) else a i := by
  have go : ∀ (r k t : Nat) (b : Nat → Int32), k + r + 1 = N → r + 1 < t → (∀ i : Nat, b i = if g ≤ i ∧ i < k then a (i + 1) else a i) → ∃ a', L_X7_closeGap_2 N (I g) t (I k) b = some a' ∧ ∀ i : Nat, a' i = if g ≤ i ∧ i + 1 < N then a (i + 1) else a i := by
    intro r
    induction r with
    | zero =>
      intro k t b hk ht hb
      obtain ⟨t, rfl⟩ : ∃ g, t = g + 1 := ⟨t - 1, by omega⟩
      rw [L_X7_closeGap_2, oN]
      refine ⟨b, ?_, fun i => ?_⟩
      · simp (disch := omega) only [brn_if, grd_if, ↓bnd_some, bnd_some, bnd_if, bnd_none, J_at, I_add, I_sub, I_mul, I_neg, lit_0, lit_1, lit_2, lit_3, lit_4, lit_5, lit_6, lit_7, lit_8, lit_9, lit_10, lit_11, lit_12, lit_13, lit_14, lit_20, lit_23, lit_24, lit_32, lit_33, lit_35, lit_40, lit_43, lit_45, lit_46, lit_47, lit_48, lit_49, lit_50, lit_57, lit_58, lit_59, lit_60, lit_61, lit_63, lit_64, lit_77, lit_95, lit_98, lit_99, lit_101, lit_104, lit_111, lit_112, lit_114, lit_116, lit_122, lit_127, lit_139, lit_147, lit_180, lit_255, lit_1000, lit_1029, I_lt, I_le, I_eq, I_cl, I_inb, if_pos, if_neg, eq_self, ite_true, ite_false, Int.zero_add, Int.add_zero]
      · rw [hb i]
        by_cases e : g ≤ i ∧ i < k
        · rw [if_pos e, if_pos ⟨e.1, by omega⟩]
        · rw [if_neg e, if_neg (fun q => e ⟨q.1, by omega⟩)]
    | succ r ih =>
      intro k t b hk ht hb
      obtain ⟨t, rfl⟩ : ∃ g, t = g + 1 := ⟨t - 1, by omega⟩
      rw [L_X7_closeGap_2, oN]
      by_cases e : (k : Int) < g
      · obtain ⟨a', h1, h2⟩ := ih (k + 1) t b (by omega) (by omega) (fun i => by
          rw [hb i]
          by_cases e2 : g ≤ i ∧ i < k
          · rw [if_pos e2, if_pos ⟨e2.1, by omega⟩]
          · rw [if_neg e2, if_neg (fun q => e2 ⟨q.1, by omega⟩)])
        refine ⟨a', ?_, h2⟩
        simp (disch := omega) only [brn_if, grd_if, ↓bnd_some, bnd_some, bnd_if, bnd_none, J_at, I_add, I_sub, I_mul, I_neg, lit_0, lit_1, lit_2, lit_3, lit_4, lit_5, lit_6, lit_7, lit_8, lit_9, lit_10, lit_11, lit_12, lit_13, lit_14, lit_20, lit_23, lit_24, lit_32, lit_33, lit_35, lit_40, lit_43, lit_45, lit_46, lit_47, lit_48, lit_49, lit_50, lit_57, lit_58, lit_59, lit_60, lit_61, lit_63, lit_64, lit_77, lit_95, lit_98, lit_99, lit_101, lit_104, lit_111, lit_112, lit_114, lit_116, lit_122, lit_127, lit_139, lit_147, lit_180, lit_255, lit_1000, lit_1029, I_lt, I_le, I_eq, I_cl, I_inb, if_pos, if_neg, eq_self, ite_true, ite_false, Int.zero_add, Int.add_zero]
        exact h1
      · obtain ⟨a', h1, h2⟩ := ih (k + 1) t (upd b k (b (k + 1))) (by omega) (by omega) (fun i => by
          unfold upd
          by_cases e2 : i = k
          · rw [if_pos e2, e2, if_pos ⟨by omega, by omega⟩, hb (k + 1), if_neg (by omega)]
          · rw [if_neg e2, hb i]
            by_cases e3 : g ≤ i ∧ i < k
            · rw [if_pos e3, if_pos ⟨e3.1, by omega⟩]
            · rw [if_neg e3, if_neg (fun q => e3 ⟨q.1, by omega⟩)])
        refine ⟨a', ?_, h2⟩
        have ek : ((k : Int) + 1).toNat = k + 1 := by omega
        simp (disch := omega) only [brn_if, grd_if, ↓bnd_some, bnd_some, bnd_if, bnd_none, J_at, I_add, I_sub, I_mul, I_neg, lit_0, lit_1, lit_2, lit_3, lit_4, lit_5, lit_6, lit_7, lit_8, lit_9, lit_10, lit_11, lit_12, lit_13, lit_14, lit_20, lit_23, lit_24, lit_32, lit_33, lit_35, lit_40, lit_43, lit_45, lit_46, lit_47, lit_48, lit_49, lit_50, lit_57, lit_58, lit_59, lit_60, lit_61, lit_63, lit_64, lit_77, lit_95, lit_98, lit_99, lit_101, lit_104, lit_111, lit_112, lit_114, lit_116, lit_122, lit_127, lit_139, lit_147, lit_180, lit_255, lit_1000, lit_1029, I_lt, I_le, I_eq, I_cl, I_inb, if_pos, if_neg, eq_self, ite_true, ite_false, Int.zero_add, Int.add_zero, ek, Int.toNat_natCast]
        exact h1
  unfold F_X7_closeGap
  rw [lit_0]
  by_cases hN0 : N = 0
  · subst hN0
    refine ⟨a, ?_, fun i => by rw [if_neg (by omega)]⟩
    show L_X7_closeGap_2 0 (I g) (99 + 1) (I 0) a = some a
    rw [L_X7_closeGap_2, oN]
    simp (disch := omega) only [brn_if, grd_if, ↓bnd_some, bnd_some, bnd_if, bnd_none, J_at, I_add, I_sub, I_mul, I_neg, lit_0, lit_1, lit_2, lit_3, lit_4, lit_5, lit_6, lit_7, lit_8, lit_9, lit_10, lit_11, lit_12, lit_13, lit_14, lit_20, lit_23, lit_24, lit_32, lit_33, lit_35, lit_40, lit_43, lit_45, lit_46, lit_47, lit_48, lit_49, lit_50, lit_57, lit_58, lit_59, lit_60, lit_61, lit_63, lit_64, lit_77, lit_95, lit_98, lit_99, lit_101, lit_104, lit_111, lit_112, lit_114, lit_116, lit_122, lit_127, lit_139, lit_147, lit_180, lit_255, lit_1000, lit_1029, I_lt, I_le, I_eq, I_cl, I_inb, if_pos, if_neg, eq_self, ite_true, ite_false, Int.zero_add, Int.add_zero]
  · exact go (N - 1) 0 100 a (by omega) (by omega) (fun i => by rw [if_neg (by omega)])
theorem x_sum {N : Nat} (hN : N < 90) {a : Nat → Int32} {f : Nat → Int} (h : AR a f N) : F_X7_sum N a = some (I (sumI f N 0)) := by
  have go : ∀ (r k t : Nat) (s : Int), k + r = N → r < t → L_X7_sum_10 N a t (I s) (I N) (I k) = some (I (s + sumI f r k)) := by
    intro r
    induction r with
    | zero =>
      intro k t s hk ht
      obtain ⟨t, rfl⟩ : ∃ g, t = g + 1 := ⟨t - 1, by omega⟩
      rw [L_X7_sum_10, sumI, Int.add_zero]
      simp (disch := omega) only [brn_if, grd_if, ↓bnd_some, bnd_some, bnd_if, bnd_none, J_at, I_add, I_sub, I_mul, I_neg, lit_0, lit_1, lit_2, lit_3, lit_4, lit_5, lit_6, lit_7, lit_8, lit_9, lit_10, lit_11, lit_12, lit_13, lit_14, lit_20, lit_23, lit_24, lit_32, lit_33, lit_35, lit_40, lit_43, lit_45, lit_46, lit_47, lit_48, lit_49, lit_50, lit_57, lit_58, lit_59, lit_60, lit_61, lit_63, lit_64, lit_77, lit_95, lit_98, lit_99, lit_101, lit_104, lit_111, lit_112, lit_114, lit_116, lit_122, lit_127, lit_139, lit_147, lit_180, lit_255, lit_1000, lit_1029, I_lt, I_le, I_eq, I_cl, I_inb, if_pos, if_neg, eq_self, ite_true, ite_false, Int.zero_add, Int.add_zero]
    | succ r ih =>
      intro k t s hk ht
      obtain ⟨t, rfl⟩ : ∃ g, t = g + 1 := ⟨t - 1, by omega⟩
      have hk2 := h k (by omega)
      rw [L_X7_sum_10, sumI]
      simp (disch := omega) only [brn_if, grd_if, ↓bnd_some, bnd_some, bnd_if, bnd_none, J_at, I_add, I_sub, I_mul, I_neg, lit_0, lit_1, lit_2, lit_3, lit_4, lit_5, lit_6, lit_7, lit_8, lit_9, lit_10, lit_11, lit_12, lit_13, lit_14, lit_20, lit_23, lit_24, lit_32, lit_33, lit_35, lit_40, lit_43, lit_45, lit_46, lit_47, lit_48, lit_49, lit_50, lit_57, lit_58, lit_59, lit_60, lit_61, lit_63, lit_64, lit_77, lit_95, lit_98, lit_99, lit_101, lit_104, lit_111, lit_112, lit_114, lit_116, lit_122, lit_127, lit_139, lit_147, lit_180, lit_255, lit_1000, lit_1029, I_lt, I_le, I_eq, I_cl, I_inb, if_pos, if_neg, eq_self, ite_true, ite_false, Int.zero_add, Int.add_zero, hk2, Int.toNat_natCast]
      rw [← Int.add_assoc]
      exact ih (k + 1) t (s + f k) (by omega) (by omega)
  have := go N 0 100 0 (by omega) (by omega)
  unfold F_X7_sum
  rw [lit_0, oN]
  refine Eq.trans this ?_
  rw [Int.zero_add]
theorem x_take (N : Nat) (hN : N < 2000) (a b : Nat → Int32) : F_X7_take N N a b = some (va_cpy a b 0 0 N) := by
  have e : (if Int32.ofNat N < Int32.ofNat N then Int32.ofNat N else Int32.ofNat N) = I N := by rw [oN]; split <;> rfl
  have c0 : (0 : Int32).toNatClampNeg = 0 := by decide
  unfold F_X7_take
  rw [e, grd_pos _ (by rw [lit_0]; exact I_cpy (by omega) (by omega) (by omega) (by omega) (by omega) (by omega) (by omega) (by omega)), I_cl (by omega) (by omega), c0]
  rfl
theorem x_at10 {a : Nat → Int32} {f : Nat → Int} {n : Int} (h : AR a f n) {i : Nat} (hi : (i : Int) < n) (hn : n ≤ 10) : F_X7_at 10 (I i) a = some (I (f i)) := x_at (N := 10) (by decide) h hi hn
theorem x_at4 {a : Nat → Int32} {f : Nat → Int} {n : Int} (h : AR a f n) {i : Nat} (hi : (i : Int) < n) (hn : n ≤ 4) : F_X7_at 4 (I i) a = some (I (f i)) := x_at (N := 4) (by decide) h hi hn
theorem x_at64 {a : Nat → Int32} {f : Nat → Int} {n : Int} (h : AR a f n) {i : Nat} (hi : (i : Int) < n) (hn : n ≤ 64) : F_X7_at 64 (I i) a = some (I (f i)) := x_at (N := 64) (by decide) h hi hn
theorem x_place10 {a : Nat → Int32} {f : Nat → Int} {n c : Int} (h : AR a f n) (h0 : 0 ≤ n) (hn : n ≤ 10) (hf : ∀ k, InR (f k)) (hc : InR c) : F_X7_placeOf 10 (I n) (I c) a = some (I (fIx (fun i => decide (f i = c)) n.toNat 0)) := x_placeOf (N := 10) (by decide) h h0 hn hf hc
theorem x_place4 {a : Nat → Int32} {f : Nat → Int} {n c : Int} (h : AR a f n) (h0 : 0 ≤ n) (hn : n ≤ 4) (hf : ∀ k, InR (f k)) (hc : InR c) : F_X7_placeOf 4 (I n) (I c) a = some (I (fIx (fun i => decide (f i = c)) n.toNat 0)) := x_placeOf (N := 4) (by decide) h h0 hn hf hc
theorem x_in {a b c : Int} (ha : InR a) (hb : InR b) (hc : InR c) : F_X11_isWithin (I a) (I b) (I c) = some (bI (decide (b ≤ a ∧ a ≤ c))) := by
  unfold F_X11_isWithin
  by_cases h1 : b ≤ a <;> by_cases h2 : a ≤ c
  all_goals simp (disch := omega) only [brn_if, grd_if, ↓bnd_some, bnd_some, bnd_if, bnd_none, J_at, I_add, I_sub, I_mul, I_neg, lit_0, lit_1, lit_2, lit_3, lit_4, lit_5, lit_6, lit_7, lit_8, lit_9, lit_10, lit_11, lit_12, lit_13, lit_14, lit_20, lit_23, lit_24, lit_32, lit_33, lit_35, lit_40, lit_43, lit_45, lit_46, lit_47, lit_48, lit_49, lit_50, lit_57, lit_58, lit_59, lit_60, lit_61, lit_63, lit_64, lit_77, lit_95, lit_98, lit_99, lit_101, lit_104, lit_111, lit_112, lit_114, lit_116, lit_122, lit_127, lit_139, lit_147, lit_180, lit_255, lit_1000, lit_1029, I_lt, I_le, I_eq, I_cl, I_inb, if_pos, if_neg, eq_self, ite_true, ite_false, Int.zero_add, Int.add_zero]
  all_goals first | (rw [decide_eq_true ⟨h1, h2⟩]; rfl) | (rw [decide_eq_false (fun h => h1 h.1)]; rfl) | (rw [decide_eq_false (fun h => h2 h.2)]; rfl)
theorem x_isCell {a : Int} (ha : InR a) : F_X0_isCell (I a) = some (bI (decide (0 ≤ a ∧ a ≤ 63))) := by
  unfold F_X0_isCell
  rw [lit_0, lit_63, x_in ha (by omega) (by omega), bnd_some, ← lit_0, grd_pos _ (okB _)]
theorem x_isHour {a : Int} (ha : InR a) : F_X11_isHour (I a) = some (bI (decide (0 ≤ a ∧ a ≤ 23))) := by
  unfold F_X11_isHour
  rw [lit_0, lit_23, x_in ha (by omega) (by omega), bnd_some, ← lit_0, grd_pos _ (okB _)]
theorem x_isLane {a : Int} (ha : InR a) : F_X11_isLane (I a) = some (bI (decide (0 ≤ a ∧ a ≤ 7))) := by
  unfold F_X11_isLane
  rw [lit_0, lit_7, x_in ha (by omega) (by omega), bnd_some, ← lit_0, grd_pos _ (okB _)]
theorem x_isTones {a : Int} (ha : InR a) : F_X11_isTones (I a) = some (bI (decide (0 ≤ a ∧ a ≤ 9))) := by
  unfold F_X11_isTones
  rw [lit_0, lit_9, x_in ha (by omega) (by omega), bnd_some, ← lit_0, grd_pos _ (okB _)]
theorem x_dist {c d : Int} (h1 : 0 ≤ c) (h2 : c ≤ 63) (h3 : 0 ≤ d) (h4 : d ≤ 63) : F_X0_distance (I c) (I d) = some (I (far c d)) := by
  have a1 := md_in (z := c) (d := 8) (by omega)
  have a2 := md_in (z := d) (d := 8) (by omega)
  unfold md at a1 a2
  unfold F_X0_distance F_X0_rowOf F_X0_columnOf
  rw [lit_8, I_div h1 (by omega) (by omega) (by omega), I_div h3 (by omega) (by omega) (by omega)]
  simp (disch := omega) only [bnd_some, I_add, I_sub, I_mul, I_neg, lit_0, lit_1, lit_2, lit_3, lit_4, lit_5, lit_6, lit_7, lit_8, lit_9, lit_10, lit_11, lit_12, lit_13, lit_14, lit_20, lit_23, lit_24, lit_32, lit_33, lit_35, lit_40, lit_43, lit_45, lit_46, lit_47, lit_48, lit_49, lit_50, lit_57, lit_58, lit_59, lit_60, lit_61, lit_63, lit_64, lit_77, lit_95, lit_98, lit_99, lit_101, lit_104, lit_111, lit_112, lit_114, lit_116, lit_122, lit_127, lit_139, lit_147, lit_180, lit_255, lit_1000, lit_1029, I_le, I_ite]
  rfl
theorem x_cellAt {r c : Int} (hr : InR r) (hc : InR c) : F_X0_cellAt (I r) (I c) = some (I (if (0 ≤ r ∧ r ≤ 7) ∧ (0 ≤ c ∧ c ≤ 7) then 8 * r + c else -1)) := by
  unfold F_X0_cellAt
  rw [x_isLane hr, x_isLane hc, bnd_some, bnd_some]
  simp only [bI_0]
  by_cases e1 : 0 ≤ r ∧ r ≤ 7
  · by_cases e2 : 0 ≤ c ∧ c ≤ 7
    · rw [brn_neg _ _ (by rw [decide_eq_true e1]; simp), brn_neg _ _ (by rw [decide_eq_true e2]; simp), if_pos ⟨e1, e2⟩, lit_8, I_mul, I_add]
    · rw [brn_neg _ _ (by rw [decide_eq_true e1]; simp), brn_pos _ _ (decide_eq_false e2), if_neg (fun q => e2 q.2), m1]
  · rw [brn_pos _ _ (decide_eq_false e1), if_neg (fun q => e1 q.1), m1]
/-! ===== the class: houses ===== -/
variable {b : Int} {σ : Nat → Int}
theorem x_hOn (h : WF b σ) {a : Nat → Int32} (ha : AR a (fun i => σ (77 + 5 * i)) (σ 2)) {c : Int} (hc : InR c) : F_X2_on (I c) (I (σ 2)) a = some (I (hOn σ c)) := by
  have hn := h.n
  unfold F_X2_on
  rw [x_place10 ha hn.1 hn.2 (fun k => h.r _) hc, bnd_some, fl_eq]
  · rfl
  · intro i j hi hj e1 e2
    have e1 := of_decide_eq_true e1
    have e2 := of_decide_eq_true e2
    exact h.one (by omega) (by omega) (e1.trans e2.symm)
theorem x_sleepAt (h : WF b σ) {a1 a2 : Nat → Int32} (h1 : AR a1 (fun i => σ (78 + 5 * i)) (σ 2)) (h2 : AR a2 (fun i => σ (79 + 5 * i)) (σ 2)) {i : Nat} (hi : (i : Int) < σ 2) : F_X2_sleepAt (I i) a1 a2 = some (I (slN σ i)) := by
  have hn := h.n
  have hh := h.house hi
  unfold F_X2_sleepAt F_X2_toAt F_X2_fromAt
  rw [x_at10 h1 hi hn.2, x_at10 h2 hi hn.2]
  simp (disch := omega) only [brn_if, grd_if, ↓bnd_some, bnd_some, bnd_if, bnd_none, J_at, I_add, I_sub, I_mul, I_neg, lit_0, lit_1, lit_2, lit_3, lit_4, lit_5, lit_6, lit_7, lit_8, lit_9, lit_10, lit_11, lit_12, lit_13, lit_14, lit_20, lit_23, lit_24, lit_32, lit_33, lit_35, lit_40, lit_43, lit_45, lit_46, lit_47, lit_48, lit_49, lit_50, lit_57, lit_58, lit_59, lit_60, lit_61, lit_63, lit_64, lit_77, lit_95, lit_98, lit_99, lit_101, lit_104, lit_111, lit_112, lit_114, lit_116, lit_122, lit_127, lit_139, lit_147, lit_180, lit_255, lit_1000, lit_1029, I_lt, I_le, I_eq, I_cl, I_inb, if_pos, if_neg, eq_self, ite_true, ite_false, Int.zero_add, Int.add_zero]
  rw [I_div (by omega) (by omega) (by omega) (by omega), I_mul, I_sub]
  rfl
theorem x_isAsleep (h : WF b σ) {a1 a2 : Nat → Int32} (h1 : AR a1 (fun i => σ (78 + 5 * i)) (σ 2)) (h2 : AR a2 (fun i => σ (79 + 5 * i)) (σ 2)) {i : Nat} (hi : (i : Int) < σ 2) {t : Int} (h3 : 0 ≤ t) (h4 : t ≤ 23) : F_X2_isAsleep (I i) (I t) a1 a2 = some (bI (slB σ i t)) := by
  have hn := h.n
  have hh := h.house hi
  unfold F_X2_isAsleep slB slN md
  rw [x_at10 h1 hi hn.2, x_at10 h2 hi hn.2]
  have key : ∀ (v : Bool) (P : Prop) [Decidable P], (v = true ↔ P) → some (bI v) = some (bI (decide P)) := by
    intro v P _ hv
    congr 2
    cases v
    · exact (decide_eq_false (fun q => by simpa using hv.mpr q)).symm
    · exact (decide_eq_true (hv.mp rfl)).symm
  have t1 : some (1 : Int32) = some (bI true) := rfl
  have t0 : some (0 : Int32) = some (bI false) := rfl
  rw [t1, t0]
  by_cases e1 : σ (79 + 5 * i) < σ (78 + 5 * i) <;> by_cases e2 : σ (78 + 5 * i) ≤ t <;> by_cases e3 : σ (79 + 5 * i) ≤ t
  all_goals simp (disch := omega) only [brn_if, grd_if, ↓bnd_some, bnd_some, bnd_if, bnd_none, J_at, I_add, I_sub, I_mul, I_neg, lit_0, lit_1, lit_2, lit_3, lit_4, lit_5, lit_6, lit_7, lit_8, lit_9, lit_10, lit_11, lit_12, lit_13, lit_14, lit_20, lit_23, lit_24, lit_32, lit_33, lit_35, lit_40, lit_43, lit_45, lit_46, lit_47, lit_48, lit_49, lit_50, lit_57, lit_58, lit_59, lit_60, lit_61, lit_63, lit_64, lit_77, lit_95, lit_98, lit_99, lit_101, lit_104, lit_111, lit_112, lit_114, lit_116, lit_122, lit_127, lit_139, lit_147, lit_180, lit_255, lit_1000, lit_1029, I_lt, I_le, I_eq, I_cl, I_inb, if_pos, if_neg, eq_self, ite_true, ite_false, Int.zero_add, Int.add_zero]
  all_goals refine key _ _ ?_
  all_goals simp only [true_iff, false_iff, Bool.false_eq_true]
  all_goals omega
theorem x_sleepers (h : WF b σ) {a1 a2 : Nat → Int32} (h1 : AR a1 (fun i => σ (78 + 5 * i)) (σ 2)) (h2 : AR a2 (fun i => σ (79 + 5 * i)) (σ 2)) {t : Int} (h3 : 0 ≤ t) (h4 : t ≤ 23) : F_X2_sleepers (I t) (I (σ 2)) a1 a2 = some (I (slC σ t)) := by
  have hn := h.n
  have go : ∀ (r k f : Nat) (a : Int), (k : Int) + r = σ 2 → r < f → L_X2_sleepers_4 (I t) (I (σ 2)) a1 a2 f (I a) (I k) = some (I (a + cnt (fun i => slB σ i t) r k)) := by
    intro r
    induction r with
    | zero =>
      intro k f a hk hf
      obtain ⟨f, rfl⟩ : ∃ g, f = g + 1 := ⟨f - 1, by omega⟩
      rw [L_X2_sleepers_4, cnt, Int.add_zero]
      simp (disch := omega) only [brn_if, grd_if, ↓bnd_some, bnd_some, bnd_if, bnd_none, J_at, I_add, I_sub, I_mul, I_neg, lit_0, lit_1, lit_2, lit_3, lit_4, lit_5, lit_6, lit_7, lit_8, lit_9, lit_10, lit_11, lit_12, lit_13, lit_14, lit_20, lit_23, lit_24, lit_32, lit_33, lit_35, lit_40, lit_43, lit_45, lit_46, lit_47, lit_48, lit_49, lit_50, lit_57, lit_58, lit_59, lit_60, lit_61, lit_63, lit_64, lit_77, lit_95, lit_98, lit_99, lit_101, lit_104, lit_111, lit_112, lit_114, lit_116, lit_122, lit_127, lit_139, lit_147, lit_180, lit_255, lit_1000, lit_1029, I_lt, I_le, I_eq, I_cl, I_inb, if_pos, if_neg, eq_self, ite_true, ite_false, Int.zero_add, Int.add_zero]
    | succ r ih =>
      intro k f a hk hf
      obtain ⟨f, rfl⟩ : ∃ g, f = g + 1 := ⟨f - 1, by omega⟩
      have hs := x_isAsleep h h1 h2 (i := k) (t := t) (by omega) h3 h4
      rw [L_X2_sleepers_4, cnt, hs]
      cases hb : slB σ k t
      · simp (disch := omega) only [brn_if, grd_if, ↓bnd_some, bnd_some, bnd_if, bnd_none, J_at, I_add, I_sub, I_mul, I_neg, lit_0, lit_1, lit_2, lit_3, lit_4, lit_5, lit_6, lit_7, lit_8, lit_9, lit_10, lit_11, lit_12, lit_13, lit_14, lit_20, lit_23, lit_24, lit_32, lit_33, lit_35, lit_40, lit_43, lit_45, lit_46, lit_47, lit_48, lit_49, lit_50, lit_57, lit_58, lit_59, lit_60, lit_61, lit_63, lit_64, lit_77, lit_95, lit_98, lit_99, lit_101, lit_104, lit_111, lit_112, lit_114, lit_116, lit_122, lit_127, lit_139, lit_147, lit_180, lit_255, lit_1000, lit_1029, I_lt, I_le, I_eq, I_cl, I_inb, if_pos, if_neg, eq_self, ite_true, ite_false, Int.zero_add, Int.add_zero, bI, Bool.false_eq_true]
        exact ih (k + 1) f a (by omega) (by omega)
      · simp (disch := omega) only [brn_if, grd_if, ↓bnd_some, bnd_some, bnd_if, bnd_none, J_at, I_add, I_sub, I_mul, I_neg, lit_0, lit_1, lit_2, lit_3, lit_4, lit_5, lit_6, lit_7, lit_8, lit_9, lit_10, lit_11, lit_12, lit_13, lit_14, lit_20, lit_23, lit_24, lit_32, lit_33, lit_35, lit_40, lit_43, lit_45, lit_46, lit_47, lit_48, lit_49, lit_50, lit_57, lit_58, lit_59, lit_60, lit_61, lit_63, lit_64, lit_77, lit_95, lit_98, lit_99, lit_101, lit_104, lit_111, lit_112, lit_114, lit_116, lit_122, lit_127, lit_139, lit_147, lit_180, lit_255, lit_1000, lit_1029, I_lt, I_le, I_eq, I_cl, I_inb, if_pos, if_neg, eq_self, ite_true, ite_false, Int.zero_add, Int.add_zero, bI]
        rw [← Int.add_assoc]
        exact ih (k + 1) f (a + 1) (by omega) (by omega)
  have := go (σ 2).toNat 0 100 0 (by omega) (by omega)
  unfold F_X2_sleepers slC
  rw [lit_0]
  refine Eq.trans this ?_
  rw [Int.zero_add]
end CL1
