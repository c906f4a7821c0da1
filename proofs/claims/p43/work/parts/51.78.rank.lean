/-! ===== houses by rank ===== -/
section RNK
variable {b : Int} {σ : Nat → Int} {v : TVal}
def ahB (σ : Nat → Int) (i j : Nat) : Bool := decide (σ (81 + 5 * j) < σ (81 + 5 * i) ∨ σ (81 + 5 * j) = σ (81 + 5 * i) ∧ (σ (80 + 5 * j) < σ (80 + 5 * i) ∨ σ (80 + 5 * j) = σ (80 + 5 * i) ∧ i < j))
def rkN (σ : Nat → Int) (i : Nat) : Int := cnt (fun j => ahB σ j i) (σ 2).toNat 0
theorem x_ahead (h : WF b σ) (hb : b < 1000000) (T : TR σ v) {i j : Nat} (hi : (i : Int) < σ 2) (hj : (j : Int) < σ 2) : F_X2_isAhead (I i) (I j) (v.2 3) (v.2 4) = some (bI (ahB σ i j)) := by
  have hn := h.n
  have h1 := h.house hi
  have h2 := h.house hj
  have a3 := x_at10 T.a3 hi hn.2
  have a4 := x_at10 T.a4 hi hn.2
  have b3 := x_at10 T.a3 hj hn.2
  have b4 := x_at10 T.a4 hj hn.2
  unfold F_X2_isAhead F_X2_pranksAt F_X2_ringsAt ahB
  rw [a3, a4, b3, b4]
  simp only [bnd_some]
  by_cases e1 : σ (81 + 5 * i) = σ (81 + 5 * j)
  · rw [brn_pos _ _ (congrArg I e1)]
    by_cases e2 : σ (80 + 5 * i) = σ (80 + 5 * j)
    · rw [brn_pos _ _ (congrArg I e2)]
      by_cases e3 : i < j
      · rw [brn_neg _ _ (by rw [I_le (by omega) (by omega) (by omega) (by omega)]; omega), decide_eq_true (by omega)]; rfl
      · rw [brn_pos _ _ (by rw [I_le (by omega) (by omega) (by omega) (by omega)]; omega), decide_eq_false (by omega)]; rfl
    · rw [brn_neg _ _ (by rw [I_eq (by omega) (by omega) (by omega) (by omega)]; exact e2)]
      by_cases e3 : σ (80 + 5 * i) ≤ σ (80 + 5 * j)
      · rw [brn_pos _ _ (by rw [I_le (by omega) (by omega) (by omega) (by omega)]; omega), decide_eq_false (by omega)]; rfl
      · rw [brn_neg _ _ (by rw [I_le (by omega) (by omega) (by omega) (by omega)]; omega), decide_eq_true (by omega)]; rfl
  · rw [brn_neg _ _ (by rw [I_eq (by omega) (by omega) (by omega) (by omega)]; exact e1)]
    by_cases e3 : σ (81 + 5 * i) ≤ σ (81 + 5 * j)
    · rw [brn_pos _ _ (by rw [I_le (by omega) (by omega) (by omega) (by omega)]; omega), decide_eq_false (by omega)]; rfl
    · rw [brn_neg _ _ (by rw [I_le (by omega) (by omega) (by omega) (by omega)]; omega), decide_eq_true (by omega)]; rfl
theorem m_ahead (h : WF b σ) (hb : b < 1000000) {i j : Nat} (hi : (i : Int) < σ 2) (hj : (j : Int) < σ 2) : F_X12_isAhead (I i) (I j) (J σ) = some (bI (ahB σ i j)) := by
  have hn := h.n
  have h1 := h.house hi
  have h2 := h.house hj
  have at3 : ∀ i : Nat, F_X12_at (I i) 3 = some (I (77 + 5 * i + 3)) := by
    intro i
    unfold F_X12_at
    rw [lit_77, lit_5, lit_3, I_mul, I_add, I_add]
  have at4 : ∀ i : Nat, F_X12_at (I i) 4 = some (I (77 + 5 * i + 4)) := by
    intro i
    unfold F_X12_at
    rw [lit_77, lit_5, lit_4, I_mul, I_add, I_add]
  have l3 : ∀ i : Nat, (i : Int) < σ 2 → (I (77 + 5 * (i : Int) + 3)).toNatClampNeg = 80 + 5 * i := by intro i hi; rw [I_cl (by omega) (by omega)]; omega
  have l4 : ∀ i : Nat, (i : Int) < σ 2 → (I (77 + 5 * (i : Int) + 4)).toNatClampNeg = 81 + 5 * i := by intro i hi; rw [I_cl (by omega) (by omega)]; omega
  have b3 : ∀ i : Nat, (i : Int) < σ 2 → inb (I (77 + 5 * (i : Int) + 3)) 147 := by intro i hi; rw [I_inb (by omega) (by omega)]; omega
  have b4 : ∀ i : Nat, (i : Int) < σ 2 → inb (I (77 + 5 * (i : Int) + 4)) 147 := by intro i hi; rw [I_inb (by omega) (by omega)]; omega
  have key : ∀ d : Int, InR d → J_X12_isAhead_51 (I i) (I j) (J σ) (I d) = some (bI (decide (0 < d ∨ d = 0 ∧ i < j))) := by
    intro d hd
    unfold J_X12_isAhead_51
    by_cases q1 : 0 < d
    · rw [brn_pos _ _ (by rw [lit_0, I_lt (by omega) (by omega) (by omega) (by omega)]; exact q1), decide_eq_true (Or.inl q1)]; rfl
    · rw [brn_neg _ _ (by rw [lit_0, I_lt (by omega) (by omega) (by omega) (by omega)]; exact q1)]
      by_cases q2 : d = 0
      · rw [brn_pos _ _ (by rw [q2]; rfl)]
        by_cases q3 : i < j
        · rw [brn_neg _ _ (by rw [I_le (by omega) (by omega) (by omega) (by omega)]; omega), decide_eq_true (Or.inr ⟨q2, q3⟩)]; rfl
        · rw [brn_pos _ _ (by rw [I_le (by omega) (by omega) (by omega) (by omega)]; omega), decide_eq_false (by omega)]; rfl
      · rw [brn_neg _ _ (by rw [lit_0, I_eq (by omega) (by omega) (by omega) (by omega)]; exact q2), decide_eq_false (by omega)]; rfl
  unfold F_X12_isAhead
  rw [at4, bnd_some, grd_pos _ (b4 i hi), at4, bnd_some, grd_pos _ (b4 j hj)]
  by_cases e1 : σ (81 + 5 * i) = σ (81 + 5 * j)
  · rw [brn_pos _ _ (by rw [l4 i hi, l4 j hj, J_at, J_at, I_sub, e1, Int.sub_self]; rfl), at3, bnd_some, grd_pos _ (b3 i hi), at3, bnd_some, grd_pos _ (b3 j hj), l3 i hi, l3 j hj, J_at, J_at, I_sub, key _ (by omega)]
    unfold ahB
    congr 2
    exact decide_eq_decide.mpr (by omega)
  · rw [brn_neg _ _ (by rw [l4 i hi, l4 j hj, J_at, J_at, I_sub, lit_0, I_eq (by omega) (by omega) (by omega) (by omega)]; omega), l4 i hi, l4 j hj, J_at, J_at, I_sub, key _ (by omega)]
    unfold ahB
    congr 2
    exact decide_eq_decide.mpr (by omega)
theorem x_rank (h : WF b σ) (hb : b < 1000000) (T : TR σ v) {i : Nat} (hi : (i : Int) < σ 2) : F_X2_rankOf (I i) (I (σ 2)) (v.2 3) (v.2 4) = some (I (rkN σ i)) := by
  have hn := h.n
  have go : ∀ (r k f : Nat) (a : Int), (k : Int) + r = σ 2 → r < f → L_X2_rankOf_4 (I i) (I (σ 2)) (v.2 3) (v.2 4) f (I a) (I k) = some (I (a + cnt (fun j => ahB σ j i) r k)) := by
    intro r
    induction r with
    | zero =>
      intro k f a hk hf
      obtain ⟨f, rfl⟩ : ∃ g, f = g + 1 := ⟨f - 1, by omega⟩
      rw [L_X2_rankOf_4, cnt, Int.add_zero]
      simp (disch := omega) only [brn_if, grd_if, ↓bnd_some, bnd_some, bnd_if, bnd_none, J_at, I_add, I_sub, I_mul, I_neg, lit_0, lit_1, lit_2, lit_3, lit_4, lit_5, lit_6, lit_7, lit_8, lit_9, lit_10, lit_11, lit_12, lit_13, lit_14, lit_20, lit_23, lit_24, lit_32, lit_33, lit_35, lit_40, lit_43, lit_45, lit_46, lit_47, lit_48, lit_49, lit_50, lit_57, lit_58, lit_59, lit_60, lit_61, lit_63, lit_64, lit_77, lit_95, lit_98, lit_99, lit_101, lit_104, lit_111, lit_112, lit_114, lit_116, lit_122, lit_127, lit_139, lit_147, lit_180, lit_255, lit_1000, lit_1029, I_lt, I_le, I_eq, I_cl, I_inb, if_pos, if_neg, eq_self, Bool.false_eq_true, ite_true, ite_false, Int.zero_add, Int.add_zero]
    | succ r ih =>
      intro k f a hk hf
      obtain ⟨f, rfl⟩ : ∃ g, f = g + 1 := ⟨f - 1, by omega⟩
      rw [L_X2_rankOf_4, cnt, x_ahead h hb T (i := k) (by omega) hi]
      cases hc : ahB σ k i
      · simp (disch := omega) only [brn_if, grd_if, ↓bnd_some, bnd_some, bnd_if, bnd_none, J_at, I_add, I_sub, I_mul, I_neg, lit_0, lit_1, lit_2, lit_3, lit_4, lit_5, lit_6, lit_7, lit_8, lit_9, lit_10, lit_11, lit_12, lit_13, lit_14, lit_20, lit_23, lit_24, lit_32, lit_33, lit_35, lit_40, lit_43, lit_45, lit_46, lit_47, lit_48, lit_49, lit_50, lit_57, lit_58, lit_59, lit_60, lit_61, lit_63, lit_64, lit_77, lit_95, lit_98, lit_99, lit_101, lit_104, lit_111, lit_112, lit_114, lit_116, lit_122, lit_127, lit_139, lit_147, lit_180, lit_255, lit_1000, lit_1029, I_lt, I_le, I_eq, I_cl, I_inb, if_pos, if_neg, eq_self, Bool.false_eq_true, ite_true, ite_false, Int.zero_add, Int.add_zero, bI_f]
        exact ih (k + 1) f a (by omega) (by omega)
      · simp (disch := omega) only [brn_if, grd_if, ↓bnd_some, bnd_some, bnd_if, bnd_none, J_at, I_add, I_sub, I_mul, I_neg, lit_0, lit_1, lit_2, lit_3, lit_4, lit_5, lit_6, lit_7, lit_8, lit_9, lit_10, lit_11, lit_12, lit_13, lit_14, lit_20, lit_23, lit_24, lit_32, lit_33, lit_35, lit_40, lit_43, lit_45, lit_46, lit_47, lit_48, lit_49, lit_50, lit_57, lit_58, lit_59, lit_60, lit_61, lit_63, lit_64, lit_77, lit_95, lit_98, lit_99, lit_101, lit_104, lit_111, lit_112, lit_114, lit_116, lit_122, lit_127, lit_139, lit_147, lit_180, lit_255, lit_1000, lit_1029, I_lt, I_le, I_eq, I_cl, I_inb, if_pos, if_neg, eq_self, Bool.false_eq_true, ite_true, ite_false, Int.zero_add, Int.add_zero, bI_t]
        rw [← Int.add_assoc]
        exact ih (k + 1) f (a + 1) (by omega) (by omega)
  have := go (σ 2).toNat 0 100 0 (by omega) (by omega)
  unfold F_X2_rankOf rkN
  rw [lit_0]
  refine Eq.trans this ?_
  rw [Int.zero_add]
theorem rk_in (h : WF b σ) {i : Nat} (hi : (i : Int) < σ 2) : 0 ≤ rkN σ i ∧ rkN σ i < σ 2 := by
  have hn := h.n
  have strict : ∀ (p : Nat → Bool) (r k m : Nat), k ≤ m → m < k + r → p m = false → cnt p r k < r := by
    intro p r
    induction r with
    | zero => intro k m h1 h2 h3; omega
    | succ r ih =>
      intro k m h1 h2 h3
      have := cnt_in p r (k + 1)
      rw [cnt]
      by_cases e : m = k
      · rw [e] at h3
        rw [h3]
        simp
        omega
      · have := ih (k + 1) m (by omega) (by omega) h3
        split <;> omega
  have h1 := cnt_in (fun j => ahB σ j i) (σ 2).toNat 0
  have h2 := strict (fun j => ahB σ j i) (σ 2).toNat 0 i (by omega) (by omega) (by
    show ahB σ i i = false
    unfold ahB
    exact decide_eq_false (by omega))
  unfold rkN
  omega
theorem cnt_lt {p q : Nat → Bool} : ∀ (r k m : Nat), (∀ i, k ≤ i → i < k + r → p i = true → q i = true) → k ≤ m → m < k + r → p m = false → q m = true → cnt p r k < cnt q r k := by
  have le : ∀ (r k : Nat), (∀ i, k ≤ i → i < k + r → p i = true → q i = true) → cnt p r k ≤ cnt q r k := by
    intro r
    induction r with
    | zero => intro k h; exact Int.le_refl _
    | succ r ih =>
      intro k h
      have := ih (k + 1) (fun i a b => h i (by omega) (by omega))
      have hk := h k (by omega) (by omega)
      rw [cnt, cnt]
      cases hp : p k
      · simp; split <;> omega
      · rw [hk hp]; simp; omega
  intro r
  induction r with
  | zero => intro k m h h1 h2; omega
  | succ r ih =>
    intro k m h h1 h2 h3 h4
    rw [cnt, cnt]
    by_cases e : m = k
    · subst e
      rw [h3, h4]
      have := le r (m + 1) (fun i a b => h i (by omega) (by omega))
      simp
      omega
    · have := ih (k + 1) m (fun i a b => h i (by omega) (by omega)) (by omega) (by omega) h3 h4
      have hk := h k (by omega) (by omega)
      cases hp : p k
      · simp; split <;> omega
      · rw [hk hp]; simp; omega
theorem rk_inj (h : WF b σ) {i j : Nat} (hi : (i : Int) < σ 2) (hj : (j : Int) < σ 2) (he : rkN σ i = rkN σ j) : i = j := by
  have hn := h.n
  have lt : ∀ i j : Nat, (i : Int) < σ 2 → (j : Int) < σ 2 → ahB σ i j = true → rkN σ i < rkN σ j := by
    intro i j hi hj ha
    unfold rkN
    refine cnt_lt (σ 2).toNat 0 i (fun m _ _ hm => ?_) (by omega) (by omega) ?_ ha
    · unfold ahB at ha hm ⊢
      have ha := of_decide_eq_true ha
      have hm := of_decide_eq_true hm
      exact decide_eq_true (by omega)
    · unfold ahB
      exact decide_eq_false (by omega)
  refine Classical.byContradiction (fun ne => ?_)
  have tot : ahB σ i j = true ∨ ahB σ j i = true := by
    unfold ahB
    rcases (show (σ (81 + 5 * j) < σ (81 + 5 * i) ∨ σ (81 + 5 * j) = σ (81 + 5 * i) ∧ (σ (80 + 5 * j) < σ (80 + 5 * i) ∨ σ (80 + 5 * j) = σ (80 + 5 * i) ∧ i < j)) ∨ (σ (81 + 5 * i) < σ (81 + 5 * j) ∨ σ (81 + 5 * i) = σ (81 + 5 * j) ∧ (σ (80 + 5 * i) < σ (80 + 5 * j) ∨ σ (80 + 5 * i) = σ (80 + 5 * j) ∧ j < i)) by omega) with q | q
    · exact Or.inl (decide_eq_true q)
    · exact Or.inr (decide_eq_true q)
  rcases tot with q | q
  · have := lt i j hi hj q
    omega
  · have := lt j i hj hi q
    omega
theorem rk_onto (h : WF b σ) {p : Int} (hp : 0 ≤ p ∧ p < σ 2) : ∃ i : Nat, (i : Int) < σ 2 ∧ rkN σ i = p := by
  have hn := h.n
  obtain ⟨i, h1, h2⟩ := fb_onto (n := (σ 2).toNat) (f := fun i => (rkN σ i).toNat) (y := p.toNat) (fun i hi => by have := rk_in h (i := i) (by omega); omega) (fun i j hij hj e => by
    have a := rk_in h (i := i) (by omega)
    have c := rk_in h (i := j) (by omega)
    have := rk_inj h (i := i) (j := j) (by omega) (by omega) (by have e : (rkN σ i).toNat = (rkN σ j).toNat := e; omega)
    omega) (by omega)
  have a := rk_in h (i := i) (by omega)
  have h2 : (rkN σ i).toNat = p.toNat := h2
  exact ⟨i, by omega, by omega⟩
end RNK
