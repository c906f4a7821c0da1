/-! ===== lines: the line of a row ===== -/
def sgV (σ : Nat → Int) (c : Int) : Int32 := if hOn σ c = -1 then (if blkB σ c = true then 35 else if pOn σ c = -1 then (if lOn σ c = -1 then 46 else 95) else 111) else I (48 + hOn σ c)
theorem put1 {z : Int32} {n : Nat} (hn : n < 20) (hz : vp_nar .char z = z) (a : Nat → Int32) : F_X8_putSign z (I n) a = some (I ((n + 1 : Nat) : Int), upd a n z) := by
  have ecl : (I (n : Int)).toNatClampNeg = n := by rw [I_cl (by omega) (by omega)]; omega
  unfold F_X8_putSign
  rw [brn_neg _ _ (by rw [lit_20, I_le (by omega) (by omega) (by omega) (by omega)]; omega), grd_pos _ (by rw [I_inb (by omega) (by omega)]; omega), ecl, kk_I, hz]
section LVV
variable {b : Int} {σ : Nat → Int} {v : TVal}
theorem v_sign (h : WF b σ) (T : TR σ v) {c : Int} (h1 : 0 ≤ c) (h2 : c ≤ 63) : F_X8_signOf (I c) (I (σ 2)) (v.2 0) (I (σ 3)) (v.2 5) (v.2 6) (v.2 7) (I (σ 4)) (v.2 8) (v.2 10) = some (sgV σ c) ∧ vp_nar .char (sgV σ c) = sgV σ c := by
  have a1 := hOn_in h c
  have a2 := pOn_in h c
  have a3 := lOn_in h c
  have b1 := h.n
  have b2 := h.q
  have b3 := h.m
  unfold F_X8_signOf sgV
  rw [x_hOn h T.a0 (by omega), x_isBlocked h T.a10 h1 h2, x_pOn h T.a8 (by omega), x_lOn h T.a5 T.a6 T.a7 h1 h2]
  simp only [bnd_some]
  by_cases e1 : hOn σ c = -1
  · rw [if_pos e1, brn_pos _ _ (by rw [e1, m1])]
    cases e2 : blkB σ c with
    | true =>
      rw [brn_neg _ _ (show ¬ bI true = 0 by decide), grd_pos _ (by decide), if_pos rfl]
      exact ⟨rfl, by decide⟩
    | false =>
      rw [brn_pos _ _ (show bI false = 0 from rfl), if_neg (by decide)]
      by_cases e3 : pOn σ c = -1
      · rw [if_pos e3, brn_pos _ _ (by rw [e3, m1])]
        by_cases e4 : lOn σ c = -1
        · rw [if_pos e4, brn_pos _ _ (by rw [e4, m1]), grd_pos _ (by decide)]
          exact ⟨rfl, by decide⟩
        · rw [if_neg e4, brn_neg _ _ (by rw [m1, I_eq (by omega) (by omega) (by omega) (by omega)]; exact e4), grd_pos _ (by decide)]
          exact ⟨rfl, by decide⟩
      · rw [if_neg e3, brn_neg _ _ (by rw [m1, I_eq (by omega) (by omega) (by omega) (by omega)]; exact e3), grd_pos _ (by decide)]
        exact ⟨rfl, by decide⟩
  · obtain ⟨d1, d2, d3⟩ := dg (d := hOn σ c) (by omega) (by omega)
    rw [if_neg e1, brn_neg _ _ (by rw [m1, I_eq (by omega) (by omega) (by omega) (by omega)]; exact e1), d1, bnd_some, grd_pos _ d3]
    exact ⟨rfl, d3⟩
theorem v_row (h : WF b σ) (T : TR σ v) {r : Int} (hr : 0 ≤ r ∧ r ≤ 7) : ∀ (m k f : Nat) (a : Nat → Int32), k + m = 8 → m < f → (∀ i : Nat, i < k → a i = sgV σ (8 * r + i)) → ∃ a2, L_X8_writeRow_7 (I r) (I (σ 2)) (v.2 0) (I (σ 3)) (v.2 5) (v.2 6) (v.2 7) (I (σ 4)) (v.2 8) (v.2 10) f (I k) (I k) a = some (I ((8 : Nat) : Int), I ((8 : Nat) : Int), a2) ∧ ∀ i : Nat, i < 8 → a2 i = sgV σ (8 * r + i) := by
  intro m
  induction m with
  | zero =>
    intro k f a hk hf hL
    obtain ⟨f, rfl⟩ : ∃ g, f = g + 1 := ⟨f - 1, by omega⟩
    obtain rfl : k = 8 := by omega
    refine ⟨a, ?_, hL⟩
    rw [L_X8_writeRow_7, brn_pos _ _ (by decide)]
  | succ m ih =>
    intro k f a hk hf hL
    obtain ⟨f, rfl⟩ : ∃ g, f = g + 1 := ⟨f - 1, by omega⟩
    obtain ⟨z1, z3⟩ := v_sign h T (c := 8 * r + k) (by omega) (by omega)
    have s1 := put1 (n := k) (by omega) z3 a
    obtain ⟨a2, u1, u3⟩ := ih (k + 1) f _ (by omega) (by omega) (fun i hi => show upd a k (sgV σ (8 * r + k)) i = sgV σ (8 * r + i) from by
      unfold upd
      by_cases e : i = k
      · rw [if_pos e, e]
      · rw [if_neg e]
        exact hL i (by omega))
    refine ⟨a2, ?_, u3⟩
    rw [L_X8_writeRow_7, brn_neg _ _ (by rw [lit_8, I_le (by omega) (by omega) (by omega) (by omega)]; omega), x_cellAt (by omega) (by omega), if_pos (by omega), bnd_some, z1, bnd_some, s1, bnd_some, kk_I]
    exact u1
end LVV
section LCH
variable {x : XVal}
theorem l_charP {m k : Nat} (hm : m ≤ 20) (hk : k < m) (h38 : x.1 38 = I m) (hz : vp_nar .char (x.2.1 43 k) = x.2.1 43 k) : F_L_character (I k) x = some (x.2.1 43 k) := by
  have ecl : (I (k : Int)).toNatClampNeg = k := by rw [I_cl (by omega) (by omega)]; omega
  have hG : F_X11_character (I k) (x.1 38) (x.2.1 43) = some (0, x.2.1 43 k) := by
    unfold F_X11_character F_X8_has F_X8_signAt
    rw [h38, brn_neg _ _ (by rw [lit_0, I_lt (by omega) (by omega) (by omega) (by omega)]; omega), brn_neg _ _ (by rw [I_le (by omega) (by omega) (by omega) (by omega)]; omega), bnd_some, show F_X11_demandListed 1 = some 0 from x_dLt, bnd_some, brn_pos _ _ rfl, brn_neg _ _ (by rw [lit_0, I_lt (by omega) (by omega) (by omega) (by omega)]; omega), brn_neg _ _ (by rw [lit_20, I_le (by omega) (by omega) (by omega) (by omega)]; omega), grd_pos _ (by rw [I_inb (by omega) (by omega)]; omega), ecl, grd_pos _ hz, bnd_some, grd_pos _ hz]
  unfold F_L_character G_character
  rw [hG, bnd_some, bnd_some]
  rfl
theorem l_charE {m : Nat} (hm : m ≤ 20) (h38 : x.1 38 = I m) : F_L_character (I m) x = some (-11 : Int32) := by
  have hG : F_X11_character (I m) (x.1 38) (x.2.1 43) = some (1, 0) := by
    unfold F_X11_character F_X8_has
    rw [h38, brn_neg _ _ (by rw [lit_0, I_lt (by omega) (by omega) (by omega) (by omega)]; omega), brn_pos _ _ (Int32.le_refl _), bnd_some, show F_X11_demandListed 0 = some 1 from x_dLf, bnd_some, brn_neg _ _ (by decide)]
  unfold F_L_character G_character
  rw [hG, bnd_some, bnd_some]
  rfl
end LCH
section OSL
variable {b : Int} {σ π : Nat → Int} {n e : Nat} {x : XVal} {y : MVal}
theorem os_line (hR : St b σ π n e x y) {a : Int} (ha : 0 ≤ a ∧ a ≤ 7) : ∃ x2 y2, F_L_line (I a) x = some ((8 : Int32), x2) ∧ St b σ π n e x2 y2 ∧ ∀ i : Nat, i < 8 → F_L_character (I i) x2 = some (sgV σ (8 * a + i)) := by
  obtain ⟨⟨hw, hs, T⟩, hK, hPP, hQ, hO, hS⟩ := hR
  have h7 : x.1 7 = I (σ 2) := T.1.2.2.2.2.2.2.1
  have h8 : x.1 8 = I (σ 3) := T.1.2.2.2.2.2.2.2.1
  have h9 : x.1 9 = I (σ 4) := T.1.2.2.2.2.2.2.2.2
  obtain ⟨a2, u1, u3⟩ := v_row (v := xT x) hw T ha 8 0 100 (x.2.1 43) (by omega) (by omega) (fun i hi => by omega)
  have u4 : ∀ i : Nat, i < 8 → vp_nar .char (a2 i) = a2 i := fun i hi => by
    rw [u3 i hi]
    exact (v_sign (v := xT x) hw T (c := 8 * a + i) (by omega) (by omega)).2
  have hG : F_X11_line (I a) (I (σ 2)) (x.2.1 0) (I (σ 3)) (x.2.1 5) (x.2.1 6) (x.2.1 7) (I (σ 4)) (x.2.1 8) (x.2.1 10) (x.1 38) (x.2.1 43) = some (0, I ((8 : Nat) : Int), I ((8 : Nat) : Int), a2) := by
    unfold F_X11_line
    rw [x_lane_p (by omega) ha, bnd_some, show F_X11_demandProper (I 1) = some 0 from x_dPt, bnd_some, brn_pos _ _ rfl, show F_X8_writeRow (I a) (I (σ 2)) (x.2.1 0) (I (σ 3)) (x.2.1 5) (x.2.1 6) (x.2.1 7) (I (σ 4)) (x.2.1 8) (x.2.1 10) (x.1 38) (x.2.1 43) = _ from u1, bnd_some]
  unfold F_L_line G_line
  rw [h7, h8, h9, hG, bnd_some, bnd_some]
  refine ⟨_, ((fun k => if k = 8 then I ((8 : Nat) : Int) else y.1 k), (fun k => if k = 6 then a2 else y.2 k)), rfl, ⟨⟨hw, hs, T⟩, hK, hPP, hQ, hO, ⟨8, by omega, rfl, rfl, fun i hi => ⟨rfl, u4 i hi⟩⟩⟩, fun i hi => ?_⟩
  rw [l_charP (m := 8) (by omega) hi rfl (u4 i hi)]
  exact congrArg some (u3 i hi)
theorem os_lineN (hR : St b σ π n e x y) {a : Int} (hr : InR a) (ha : ¬ (0 ≤ a ∧ a ≤ 7)) : ∃ x2 y2, F_L_line (I a) x = some ((-12 : Int32), x2) ∧ St b σ π n e x2 y2 := by
  obtain ⟨⟨hw, hs, T⟩, hK, hPP, hQ, hO, hS⟩ := hR
  have hG : ∀ q0 q1 q2 q3 q4 q5 q6 q7 q8 q9 q10, F_X11_line (I a) q0 q1 q2 q3 q4 q5 q6 q7 q8 q9 q10 = some (2, 0, q9, q10) := by
    intro q0 q1 q2 q3 q4 q5 q6 q7 q8 q9 q10
    unfold F_X11_line
    rw [x_lane_n hr ha, bnd_some, show F_X11_demandProper (I 0) = some 2 from x_dPf, bnd_some, brn_neg _ _ (by decide)]
  unfold F_L_line G_line
  rw [hG, bnd_some, bnd_some]
  exact ⟨_, y, rfl, ⟨⟨hw, hs, T⟩, hK, hPP, hQ, hO, hS⟩⟩
theorem os_hlN (hR : St b σ π n e x y) : ∃ x2 y2, F_L_houseLine (I (σ 2)) x = some ((-11 : Int32), x2) ∧ St b σ π n e x2 y2 := by
  obtain ⟨⟨hw, hs, T⟩, hK, hPP, hQ, hO, hS⟩ := hR
  have hn := hw.n
  have h7 : x.1 7 = I (σ 2) := T.1.2.2.2.2.2.2.1
  have hG : ∀ q0 q2 q3 q4 q5 q6 q7, F_X11_houseLine (I (σ 2)) q0 (I (σ 2)) q2 q3 q4 q5 q6 q7 = some (1, 0, q6, q7) := by
    intro q0 q2 q3 q4 q5 q6 q7
    unfold F_X11_houseLine
    rw [x_has_n (by omega) (by omega) (by omega), bnd_some, show F_X11_demandListed (I 0) = some 1 from x_dLf, bnd_some, brn_neg _ _ (by decide)]
  unfold F_L_houseLine G_houseLine
  rw [h7, hG, bnd_some, bnd_some]
  exact ⟨_, y, rfl, ⟨⟨hw, hs, T⟩, hK, hPP, hQ, hO, hS⟩⟩
end OSL
