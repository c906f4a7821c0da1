section LOK2
variable {b : Int} {σ : Nat → Int} {v : TVal} {x : XVal}
theorem lk_11 (h : WF b σ) (T : TR σ (xT x)) (bl : Nat → Int32) : ∀ (r k f : Nat) (a : Int), (k : Int) + r = σ 4 → r < f →
    L_L_looked_11 bl f (I (σ 4)) (I a) (I k) x = L_L_looked_11 bl 1 (I (σ 4)) (I (a + cnt (fun j => decide (0 ≤ σ (140 + 2 * j))) r k)) (I (σ 4)) x := by
  have hq := h.q
  intro r
  induction r with
  | zero =>
    intro k f a hk hf
    obtain ⟨f, rfl⟩ : ∃ g, f = g + 1 := ⟨f - 1, by omega⟩
    rw [show cnt (fun j => decide (0 ≤ σ (140 + 2 * j))) 0 k = 0 from rfl, Int.add_zero, show (k : Int) = σ 4 by omega, L_L_looked_11, L_L_looked_11, brn_pos _ _ (Int32.le_refl _), brn_pos _ _ (Int32.le_refl _)]
  | succ r ih =>
    intro k f a hk hf
    obtain ⟨f, rfl⟩ : ∃ g, f = g + 1 := ⟨f - 1, by omega⟩
    have hki : (k : Int) < σ 4 := by omega
    have hp := h.post hki
    rw [L_L_looked_11, brn_neg _ _ (by rw [I_le (by omega) (by omega) (by omega) (by omega)]; omega), l_post1 h T hki, bnd_some]
    unfold J_L_looked_33
    rw [kk_I, lit_0, lit_1, show cnt (fun j => decide (0 ≤ σ (140 + 2 * j))) (r + 1) k = (if decide (0 ≤ σ (140 + 2 * k)) then 1 else 0) + cnt (fun j => decide (0 ≤ σ (140 + 2 * j))) r (k + 1) from rfl]
    by_cases e : 0 ≤ σ (140 + 2 * k)
    · rw [if_neg (by omega), decide_eq_true e, if_pos rfl, brn_neg _ _ (by rw [I_lt (by omega) (by omega) (by omega) (by omega)]; omega), I_add, ih (k + 1) f (a + 1) (by omega) (by omega), Int.add_assoc]
    · rw [if_pos (by omega), decide_eq_false e, if_neg (by decide), brn_pos _ _ (by rw [I_lt (by omega) (by omega) (by omega) (by omega)]; omega), I_add, ih (k + 1) f (a + 0) (by omega) (by omega), Int.add_assoc]
end LOK2
