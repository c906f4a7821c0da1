/-! ===== the well-check leaves the row ===== -/
theorem os_isWell {b : Int} {x : XVal} {y : MVal} {σ π : Nat → Int} {n e : Nat} (hR : St b σ π n e x y) : ∃ x2 y2, G_isWell x = some (0, (1 : Int32), x2) ∧ St b σ π n e x2 y2 := by
  obtain ⟨⟨hw, hs, T⟩, hK, hPP, hQ, hO, hS⟩ := hR
  have h3 : x.1 3 = I (σ 8 - 1) := T.1.2.2.1
  have h4 : x.1 4 = I (σ 5) := T.1.2.2.2.1
  have h5 : x.1 5 = I (σ 6) := T.1.2.2.2.2.1
  have h7 : x.1 7 = I (σ 2) := T.1.2.2.2.2.2.2.1
  have h9 : x.1 9 = I (σ 4) := T.1.2.2.2.2.2.2.2.2
  have hl := hw.look
  obtain ⟨st2, q2, l2, z1⟩ := x_waysAlike (v := xT x) hw T (x.2.1 39) (x.2.1 40) (x.2.1 41)
  have j40 : J_X11_isWell_40 (I (σ 8 - 1)) (I (σ 5)) (I (σ 6)) (I (σ 2)) (x.2.1 0) (x.2.1 1) (x.2.1 2) (I (σ 4)) (x.2.1 8) (x.2.1 9) (x.2.1 10) (x.2.1 11) (x.2.1 39) (x.2.1 40) (x.2.1 41) = some (1, st2, q2, l2) := by
    unfold J_X11_isWell_40
    rw [show F_X10_areWaysAlike (I (σ 2)) (x.2.1 0) (x.2.1 10) (x.2.1 39) (x.2.1 40) (x.2.1 41) = _ from z1, bnd_some]
    dsimp only
    rw [brn_neg _ _ (by decide), show F_X9_areRingsComplete (I (σ 5)) (I (σ 6)) (x.2.1 11) = _ from x_complete (v := xT x) hw T, bnd_some, brn_neg _ _ (by decide)]
  have hG : F_X11_isWell (I (σ 8 - 1)) (I (σ 5)) (I (σ 6)) (I (σ 2)) (x.2.1 0) (x.2.1 1) (x.2.1 2) (I (σ 4)) (x.2.1 8) (x.2.1 9) (x.2.1 10) (x.2.1 11) (x.2.1 39) (x.2.1 40) (x.2.1 41) = some (1, st2, q2, l2) := by
    unfold F_X11_isWell F_X9_hasPrank
    rw [show F_X2_areSleepersAlike (I (σ 2)) (x.2.1 1) (x.2.1 2) = _ from x_alike (v := xT x) hw T, bnd_some, brn_neg _ _ (by decide)]
    by_cases q : σ 8 = 0
    · rw [brn_pos (c := I (σ 8 - 1) = -1) _ _ (by rw [q]; decide), bnd_some, brn_pos _ _ (by first | rfl | decide)]
      exact j40
    · rw [brn_neg (c := I (σ 8 - 1) = -1) _ _ (by rw [m1, I_eq (by omega) (by omega) (by omega) (by omega)]; omega), bnd_some, brn_neg _ _ (by decide), show F_X9_countFits (I (σ 4)) (x.2.1 8) (x.2.1 9) (x.2.1 10) = _ from x_canN hw T.a8 T.a9 T.a10, bnd_some, show F_X9_countFitsAround (I (σ 4)) (x.2.1 8) (x.2.1 9) (x.2.1 10) = _ from x_around (v := xT x) hw T, bnd_some, brn_pos _ _ (by first | rfl | decide)]
      exact j40
  unfold G_isWell
  rw [h3, h4, h5, h7, h9, hG, bnd_some]
  exact ⟨_, y, rfl, ⟨⟨hw, hs, T⟩, hK, hPP, hQ, hO, hS⟩⟩
