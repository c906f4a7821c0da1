section G332
variable {b : Int} {σ : Nat → Int} {x : XVal} {L : Nat} {xs bl : Nat → Int32}
theorem g332 (h : WF b σ) (hb : b < 1000000) (T : TR σ (xT x)) (x8 x9 : Int32) : ∀ (r k f : Nat) (p : Int), (k : Int) + r = σ 2 → r < f → (p = -1 ∨ ∃ i : Nat, p = i ∧ (i : Int) < σ 2 ∧ rkN σ i < k) →
    L_L_gone_332 L xs bl f (I (σ 2)) x8 x9 (I p) (I k) x = L_L_gone_332 L xs bl 1 (I (σ 2)) x8 x9 (I (-1)) (I (σ 2)) x := by
  have hn := h.n
  intro r
  induction r with
  | zero =>
    intro k f p hk hf hp
    obtain ⟨f, rfl⟩ : ∃ g, f = g + 1 := ⟨f - 1, by omega⟩
    rw [show (k : Int) = σ 2 by omega, L_L_gone_332, L_L_gone_332, brn_pos _ _ (Int32.le_refl _), brn_pos _ _ (Int32.le_refl _)]
  | succ r ih =>
    intro k f p hk hf hp
    obtain ⟨f, rfl⟩ : ∃ g, f = g + 1 := ⟨f - 1, by omega⟩
    obtain ⟨j, hj, hr, hg⟩ := l_ranked h hb T (a := k) (by omega)
    have cj := h.house hj
    have next := ih (k + 1) f j (by omega) (by omega) (Or.inr ⟨j, rfl, hj, by omega⟩)
    rw [L_L_gone_332, brn_neg _ _ (by rw [I_le (by omega) (by omega) (by omega) (by omega)]; omega), hg, bnd_some, brn_pos _ _ (by rw [lit_0, I_le (by omega) (by omega) (by omega) (by omega)]; omega)]
    unfold J_L_gone_379 J_L_gone_406 J_L_gone_427
    rw [kk_I, next]
    rcases hp with rfl | ⟨i, rfl, hi, hlt⟩
    · rw [brn_neg _ _ (by decide), brn_neg _ _ (by decide), brn_neg _ _ (by decide), brn_neg _ _ (by decide)]
    · have ci := h.house hi
      have ah := of_decide_eq_true (show decide _ = true from rk_lt h hi hj (by omega))
      rw [brn_pos _ _ (by rw [lit_0, I_le (by omega) (by omega) (by omega) (by omega)]; omega), l_of4 h T hi, bnd_some, l_of4 h T hj, bnd_some, I_sub, l_of3 h T hi, l_of3 h T hj, bnd_some, bnd_some, I_sub]
      by_cases e1 : σ (81 + 5 * i) - σ (81 + 5 * j) = 0
      · rw [brn_pos _ _ (by rw [lit_0, I_eq (by omega) (by omega) (by omega) (by omega)]; exact e1), brn_neg _ _ (by rw [lit_0, I_lt (by omega) (by omega) (by omega) (by omega)]; omega)]
        by_cases e2 : σ (80 + 5 * i) - σ (80 + 5 * j) = 0
        · rw [brn_pos _ _ (by rw [lit_0, I_eq (by omega) (by omega) (by omega) (by omega)]; exact e2), brn_pos _ _ (by rw [I_le (by omega) (by omega) (by omega) (by omega)]; omega)]
        · rw [brn_neg _ _ (by rw [lit_0, I_eq (by omega) (by omega) (by omega) (by omega)]; exact e2)]
      · rw [brn_neg _ _ (by rw [lit_0, I_eq (by omega) (by omega) (by omega) (by omega)]; exact e1), brn_neg _ _ (by rw [lit_0, I_lt (by omega) (by omega) (by omega) (by omega)]; omega), brn_neg _ _ (by rw [lit_0, I_eq (by omega) (by omega) (by omega) (by omega)]; exact e1)]
end G332
