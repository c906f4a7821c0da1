section GAP
variable {b : Int} {σ : Nat → Int} {x : XVal}
theorem l_apartN : F_L_apart (0 : Int32) (64 : Int32) x = some (-12 : Int32) := by
  rw [lit_0, lit_64, l_apart (by omega) (by omega)]
  unfold sp_apart
  rw [if_pos (by decide), if_neg (by decide)]
  rfl
theorem l_apartI {c d : Int} (hc : 0 ≤ c ∧ c ≤ 63) (hd : 0 ≤ d ∧ d ≤ 63) : F_L_apart (I c) (I d) x = some (I (far c d)) := by
  rw [l_apart (by omega) (by omega)]
  unfold sp_apart
  rw [if_pos (by omega), if_pos (by omega)]
  rfl
theorem os_wayN {y : MVal} {π : Nat → Int} {n e : Nat} (hR : St b σ π n e x y) (p3 : Int32) : ∃ x2 y2, F_L_way (-1 : Int32) (0 : Int32) p3 x = some (-12, x2) ∧ St b σ π n e x2 y2 := by
  obtain ⟨⟨hw, hs, T⟩, hK, hPP, hQ, hO, hS⟩ := hR
  have hG : F_X11_way (-1 : Int32) (0 : Int32) p3 (x.2.1 10) (x.2.1 39) (x.2.1 40) (x.2.1 41) = some (2, 0, x.2.1 39, x.2.1 40, x.2.1 41) := by
    unfold F_X11_way J_X11_way_18 J_X11_way_19
    rw [show (-1 : Int32) = I (-1) from rfl, x_cell_n (by omega) (by omega), bnd_some, brn_pos _ _ (by decide), show F_X11_demandProper 0 = some 2 from x_dPf, bnd_some, brn_neg (c := 2 = 0) _ _ (by decide)]
  unfold F_L_way G_way
  rw [hG, bnd_some, bnd_some]
  exact ⟨_, y, rfl, ⟨⟨hw, hs, T⟩, hK, hPP, hQ, hO, hS⟩⟩
theorem os_way {y : MVal} {π : Nat → Int} {n e : Nat} (hR : St b σ π n e x y) (p3 : Int32) {s d : Nat} (s64 : s < 64) (d64 : d < 64) {D : Nat → Int} (hD : WY (fun c => blkB σ c) s D) : ∃ x2 y2, F_L_way (I s) (I d) p3 x = some (I (if D d = -1 then -13 else D d), x2) ∧ St b σ π n e x2 y2 := by
  obtain ⟨⟨hw, hs, T⟩, hK, hPP, hQ, hO, hS⟩ := hR
  obtain ⟨st2, q2, E, u1, u2, hW⟩ := x_measure hw T.a10 s64 (x.2.1 39) (x.2.1 40)
  obtain ⟨lo, v1, v2⟩ := x_lower hw T.a10 s64 hW (x.2.1 41)
  have hDE : D d = E d := WY_eq hD hW d64
  have bD := hW.2.1 d d64
  have bD2 := WY_63 s64 hW d64
  have J55 : ∀ (st q l : Nat → Int32), J_X11_way_55 (I s) (I d) p3 (x.2.1 10) (I (E d)) st q l = if E d = -1 then some (4, 0, st, q, l) else some (0, I (E d), st, q, l) := by
    intro st q l
    unfold J_X11_way_55 J_X11_way_68
    by_cases z : E d = -1
    · rw [brn_pos _ _ (by rw [z, m1]), show F_X11_demandFound 0 = some 4 from x_dFf, bnd_some, brn_neg _ _ (by decide), if_pos z]
    · rw [brn_neg _ _ (by rw [m1, I_eq (by omega) (by omega) (by omega) (by omega)]; exact z), show F_X11_demandFound 1 = some 0 from x_dFt, bnd_some, brn_pos _ _ (by first | rfl | decide), if_neg z]
  have hG : ∃ st q l, F_X11_way (I s) (I d) p3 (x.2.1 10) (x.2.1 39) (x.2.1 40) (x.2.1 41) = if E d = -1 then some (4, 0, st, q, l) else some (0, I (E d), st, q, l) := by
    unfold F_X11_way J_X11_way_19 F_X10_stepsTo F_X10_lowestTo
    rw [x_cell_p (by omega) (by omega), x_cell_p (by omega) (by omega), bnd_some, bnd_some, brn_neg _ _ (by decide), brn_neg _ _ (by decide), show F_X11_demandProper 1 = some 0 from x_dPt, bnd_some, brn_pos _ _ (by first | rfl | decide), show F_X10_measure (I s) (x.2.1 10) (x.2.1 39) (x.2.1 40) = _ from u1, show F_X10_lower (I s) (x.2.1 10) (x.2.1 41) = _ from v1, bnd_some, bnd_some, show F_X7_at 64 (I (d : Int)) (st2, q2).1 = _ from x_at64 u2 (i := d) (by omega) (by omega), x_at64 v2 (i := d) (by omega) (by omega)]
    simp only [bnd_some]
    rw [J55, J55]
    by_cases z : p3 = 0
    · rw [brn_pos _ _ z]
      exact ⟨_, _, _, rfl⟩
    · rw [brn_neg _ _ z]
      exact ⟨_, _, _, rfl⟩
  obtain ⟨st, q, l, hG⟩ := hG
  unfold F_L_way G_way
  rw [hG, hDE]
  by_cases z : E d = -1
  · rw [if_pos z, if_pos z, bnd_some, bnd_some]
    exact ⟨_, y, rfl, ⟨⟨hw, hs, T⟩, hK, hPP, hQ, hO, hS⟩⟩
  · rw [if_neg z, if_neg z, bnd_some, bnd_some]
    exact ⟨_, y, rfl, ⟨⟨hw, hs, T⟩, hK, hPP, hQ, hO, hS⟩⟩
end GAP
