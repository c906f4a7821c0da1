section GR3
variable {b : Int} {σ : Nat → Int} {x : XVal}
theorem rk_lt (h : WF b σ) {i j : Nat} (hi : (i : Int) < σ 2) (hj : (j : Int) < σ 2) (he : rkN σ i < rkN σ j) : ahB σ i j = true := by
  have hn := h.n
  have lt : ∀ i j : Nat, (i : Int) < σ 2 → (j : Int) < σ 2 → ahB σ i j = true → rkN σ i < rkN σ j := by
    intro i j hi hj ha
    unfold rkN
    refine cnt_lt (σ 2).toNat 0 i (fun m _ _ hm => ?_) (by omega) (by omega) ?_ ha
    · unfold ahB at ha hm ⊢
      have ha := of_decide_eq_true ha
      have hm := of_decide_eq_true hm
      exact decide_eq_true (by omega)
    · unfold ahB
      exact decide_eq_false (by omega)
  have ne : i ≠ j := by
    intro e
    rw [e] at he
    omega
  have tot : ahB σ i j = true ∨ ahB σ j i = true := by
    unfold ahB
    rcases (show (σ (81 + 5 * j) < σ (81 + 5 * i) ∨ σ (81 + 5 * j) = σ (81 + 5 * i) ∧ (σ (80 + 5 * j) < σ (80 + 5 * i) ∨ σ (80 + 5 * j) = σ (80 + 5 * i) ∧ i < j)) ∨ (σ (81 + 5 * i) < σ (81 + 5 * j) ∨ σ (81 + 5 * i) = σ (81 + 5 * j) ∧ (σ (80 + 5 * i) < σ (80 + 5 * j) ∨ σ (80 + 5 * i) = σ (80 + 5 * j) ∧ j < i)) by omega) with q | q
    · exact Or.inl (decide_eq_true q)
    · exact Or.inr (decide_eq_true q)
  rcases tot with q | q
  · exact q
  · have := lt j i hj hi q
    omega
end GR3
