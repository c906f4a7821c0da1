/-! ===== gone: the order by rank ===== -/
section GRK
variable {b : Int} {σ : Nat → Int} {v : TVal} {x : XVal}
theorem v_ranked (h : WF b σ) (hb : b < 1000000) (T : TR σ v) {a : Int} (ha : InR a) : (0 ≤ a ∧ a < σ 2 → ∃ i : Nat, (i : Int) < σ 2 ∧ rkN σ i = a ∧ F_X11_ranked (I a) (v.1 6) (v.2 3) (v.2 4) = some (0, I i)) ∧ (¬ (0 ≤ a ∧ a < σ 2) → F_X11_ranked (I a) (v.1 6) (v.2 3) (v.2 4) = some (4, 0)) := by
  have hn := h.n
  refine ⟨fun e1 => ?_, fun e1 => ?_⟩
  · obtain ⟨i, hi, hr⟩ := rk_onto h e1
    have hf : fIx (fun i => decide (rkN σ i = a)) (σ 2).toNat 0 = i := by
      rcases fIx_sp (fun i => decide (rkN σ i = a)) (σ 2).toNat 0 with ⟨-, g⟩ | ⟨j, g1, g2, g3, g4, -⟩
      · have := of_decide_eq_false (g i (by omega) (by omega))
        exact absurd hr this
      · have g3 := of_decide_eq_true g3
        rw [g4, rk_inj h (i := j) (j := i) (by omega) hi (by omega)]
    refine ⟨i, hi, hr, ?_⟩
    rw [T.1.2.2.2.2.2.2.1]
    unfold F_X11_ranked J_X11_ranked_22
    rw [x_atRank h hb T ha, bnd_some, hf, brn_neg _ _ (by rw [m1, I_eq (by omega) (by omega) (by omega) (by omega)]; omega), show F_X11_demandFound 1 = some 0 from x_dFt, bnd_some, brn_pos _ _ rfl]
  · have hf : fIx (fun i => decide (rkN σ i = a)) (σ 2).toNat 0 = -1 := by
      rcases fIx_sp (fun i => decide (rkN σ i = a)) (σ 2).toNat 0 with ⟨g, -⟩ | ⟨j, g1, g2, g3, g4, -⟩
      · exact g
      · have g3 := of_decide_eq_true g3
        have := rk_in h (i := j) (by omega)
        omega
    rw [T.1.2.2.2.2.2.2.1]
    unfold F_X11_ranked J_X11_ranked_22
    rw [x_atRank h hb T ha, bnd_some, hf, brn_pos _ _ (by decide), show F_X11_demandFound 0 = some 4 from x_dFf, bnd_some, brn_neg _ _ (by decide)]
theorem l_ranked (h : WF b σ) (hb : b < 1000000) (T : TR σ (xT x)) {a : Int} (ha : 0 ≤ a ∧ a < σ 2) : ∃ i : Nat, (i : Int) < σ 2 ∧ rkN σ i = a ∧ F_L_ranked (I a) x = some (I i) := by
  have hn := h.n
  obtain ⟨i, hi, hr, g⟩ := (v_ranked (v := xT x) h hb T (a := a) (by omega)).1 ha
  refine ⟨i, hi, hr, ?_⟩
  unfold F_L_ranked G_ranked
  rw [show F_X11_ranked (I a) (x.1 7) (x.2.1 3) (x.2.1 4) = _ from g, bnd_some, bnd_some]
  rfl
theorem l_rankN (h : WF b σ) (hb : b < 1000000) (T : TR σ (xT x)) : F_L_ranked (I (σ 2)) x = some (-13 : Int32) := by
  have hn := h.n
  have g := (v_ranked (v := xT x) h hb T (a := σ 2) (by omega)).2 (by omega)
  unfold F_L_ranked G_ranked
  rw [show F_X11_ranked (I (σ 2)) (x.1 7) (x.2.1 3) (x.2.1 4) = _ from g, bnd_some, bnd_some]
  rfl
end GRK
theorem os_steps {b : Int} {x : XVal} {y : MVal} {σ π : Nat → Int} {n e : Nat} (hR : St b σ π n e x y) : ∃ tot x2 y2, G_steps x = some (0, tot, x2) ∧ St b σ π n e x2 y2 := by
  obtain ⟨⟨hw, hs, T⟩, hK, hPP, hQ, hO, hS⟩ := hR
  have h7 : x.1 7 = I (σ 2) := T.1.2.2.2.2.2.2.1
  obtain ⟨N, tot, S2, st2, q2, stops2, st4, goes2, z1, z2, z3, z4⟩ := x_round hw T (x.1 36) (x.1 37) (y.1 6) (y.1 7) (x.2.1 39) (x.2.1 40) (x.2.1 42) (y.2 4) (y.2 5)
  unfold G_steps F_X11_steps F_X10_roundSteps
  rw [h7, show F_X10_goRound (I (σ 2)) (x.2.1 0) (x.2.1 10) (x.1 36) (x.1 37) (x.2.1 39) (x.2.1 40) (x.2.1 42) = _ from z2, bnd_some, bnd_some, bnd_some]
  exact ⟨_, _, y, rfl, ⟨⟨hw, hs, T⟩, hK, hPP, hQ, hO, hS⟩⟩
