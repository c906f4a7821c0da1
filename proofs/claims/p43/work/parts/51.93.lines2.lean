section LI2
variable {b : Int} {σ : Nat → Int} {v : TVal}
theorem tail_eq (h : WF b σ) (T : TR σ v) {i : Nat} (hi : (i : Int) < σ 2) {n : Nat} {xs ys : Nat → Int32} (hL : LN n xs ys) (hn : n ≤ 10) (th : Int32) (c0 : Nat → Int32) : ∃ (m : Nat) (xs2 ys2 : Nat → Int32), J_X8_writeHouse_63 (I i) (I (σ 0)) c0 (v.2 1) (v.2 2) (v.2 4) (I n) xs = some (I m, I m, xs2) ∧ J_X12_houseLine_99 (I i) (J σ) th (I n) ys = some (I m, th, I m, ys2) ∧ LN m xs2 ys2 := by
  have hh := h.hour
  have hc := h.house hi
  have hr := h.r (81 + 5 * i)
  have h10 := h.n
  have c00 : (0 : Int32).toNatClampNeg = 0 := by decide
  have last : ∀ (m : Nat) (as bs : Nat → Int32), LN m as bs → m ≤ 11 → ∃ (m2 : Nat) (xs2 ys2 : Nat → Int32), J_X8_writeHouse_78 (I i) (I (σ 0)) c0 (v.2 1) (v.2 2) (v.2 4) (I m) as = some (I m2, I m2, xs2) ∧ J_X12_houseLine_119 (I i) (J σ) th (I m) bs = some (I m2, th, I m2, ys2) ∧ LN m2 xs2 ys2 := by
    intro m as bs hA hm
    have M : ∃ r : Nat, r ≤ 9 ∧ (r : Int) ≤ σ (81 + 5 * i) ∧ (r = 9 ∨ (r : Int) = σ (81 + 5 * i)) ∧ (if I (σ (81 + 5 * i)) < (9 : Int32) then I (σ (81 + 5 * i)) else (9 : Int32)) = I r := by
      by_cases q : σ (81 + 5 * i) < 9
      · refine ⟨(σ (81 + 5 * i)).toNat, by omega, by omega, Or.inr (by omega), ?_⟩
        rw [if_pos (by rw [lit_9, I_lt (by omega) (by omega) (by omega) (by omega)]; exact q)]
        congr 1
        omega
      · refine ⟨9, by omega, by omega, Or.inl rfl, ?_⟩
        rw [if_neg (by rw [lit_9, I_lt (by omega) (by omega) (by omega) (by omega)]; exact q)]
        rfl
    obtain ⟨r, m1', m2', m3', m4'⟩ := M
    obtain ⟨xs2, ys2, u1, u2, u3⟩ := marks h T hi (I (σ 0)) th c0 (v.2 1) (v.2 2) r 0 100 m as bs (by omega) (by rw [Nat.zero_add]; exact m2') (by rw [Nat.zero_add]; exact m3') (by omega) (by omega) hA
    refine ⟨m + r, xs2, ys2, ?_, ?_, u3⟩
    · unfold J_X8_writeHouse_78
      exact u1
    · unfold J_X12_houseLine_119
      have ea : F_X12_at (I i) 4 = some (I ((81 + 5 * i : Nat) : Int)) := by
        have := m_at h hi (k := 4) (by omega)
        rw [show 77 + 5 * i + 4 = 81 + 5 * i by omega] at this
        exact this
      have ecl : (I ((81 + 5 * i : Nat) : Int)).toNatClampNeg = 81 + 5 * i := by rw [I_cl (by omega) (by omega)]; omega
      rw [ea, bnd_some, grd_pos _ (by rw [I_inb (by omega) (by omega)]; omega), ecl, J_at, m4']
      exact u2
  unfold J_X8_writeHouse_63 J_X12_houseLine_99
  rw [x_isAsleep h T.a1 T.a2 hi hh.1 hh.2, bnd_some, grd_pos _ (by decide), c00, J_at, m_sleeps h hi hh.1 hh.2, bnd_some]
  cases slB σ i (σ 0) with
  | false =>
    rw [brn_pos _ _ (show bI false = 0 from rfl), brn_pos _ _ (show bI false = 0 from rfl)]
    exact last n xs ys hL (by omega)
  | true =>
    obtain ⟨s1, s2, s3⟩ := sgn hL (by omega) (show vp_nar .char 122 = 122 by decide)
    rw [brn_neg _ _ (show ¬ bI true = 0 by decide), brn_neg _ _ (show ¬ bI true = 0 by decide), s1, s2, bnd_some, bnd_some]
    exact last (n + 1) _ _ s3 (by omega)
theorem wh_eq (h : WF b σ) (T : TR σ v) {i : Nat} (hi : (i : Int) < σ 2) (sz : Int32) (th : Int32) (lm : Int32) (xs ys : Nat → Int32) (hth : th ≤ 0) : ∃ (m : Nat) (xs2 ys2 : Nat → Int32), F_X8_writeHouse (I i) (I (σ 0)) (v.2 0) (v.2 1) (v.2 2) (v.2 4) sz xs = some (I m, I m, xs2) ∧ J_X12_houseLine_14 (I i) (J σ) th th lm ys = some (I m, th, I m, ys2) ∧ LN m xs2 ys2 := by
  have hc := h.house hi
  have h10 := h.n
  have hs := slN_in σ i
  have L0 : LN 0 xs ys := ⟨by omega, fun k hk => by omega⟩
  obtain ⟨n1, x1, y1, a1, a2, a3, a4, a5⟩ := num L0 (show (0 : Int) ≤ (i : Int) by omega) (show (i : Int) ≤ 99 by omega) (Or.inl (by omega))
  have a6 := a5 (by omega)
  obtain ⟨b1, b2, b3⟩ := sgn a3 (by omega) (show vp_nar .char 64 = 64 by decide)
  obtain ⟨n3, x3, y3, c1, c2, c3, c4, c5⟩ := num b3 hc.1.1 (by omega) (Or.inl (by omega))
  unfold F_X8_writeHouse J_X12_houseLine_14
  rw [show F_X8_putNumber (I (i : Int)) 0 xs = _ from a1, brn_pos _ _ hth, show F_X12_saysNumber (I (i : Int)) 0 ys = _ from a2]
  simp only [bnd_some]
  rw [b1, b2]
  simp only [bnd_some]
  rw [x_hcell h T.a0 hi, m_cellOf h hi]
  simp only [bnd_some]
  rw [c1, c2]
  simp only [bnd_some]
  rw [x_sleepAt h T.a1 T.a2 hi, m_sleep h hi]
  simp only [bnd_some]
  by_cases q : slN σ i ≤ 0
  · rw [brn_pos _ _ (by rw [lit_0, I_le (by omega) (by omega) (by omega) (by omega)]; exact q), brn_pos _ _ (by rw [lit_0, I_le (by omega) (by omega) (by omega) (by omega)]; exact q)]
    exact tail_eq h T hi c3 (by omega) th (v.2 0)
  · obtain ⟨d1, d2, d3⟩ := sgn c3 (by omega) (show vp_nar .char 32 = 32 by decide)
    obtain ⟨n5, x5, y5, e1, e2, e3, e4, e5⟩ := num d3 hc.2.1.1 (by omega) (Or.inl (by omega))
    obtain ⟨f1, f2, f3⟩ := sgn e3 (by omega) (show vp_nar .char 45 = 45 by decide)
    obtain ⟨n7, x7, y7, g1, g2, g3, g4, g5⟩ := num f3 hc.2.2.1.1 (by omega) (Or.inl (by omega))
    have p1 : F_X12_at (I i) 1 = some (I ((78 + 5 * i : Nat) : Int)) := by
      have := m_at h hi (k := 1) (by omega)
      rw [show 77 + 5 * i + 1 = 78 + 5 * i by omega] at this
      exact this
    have p2 : F_X12_at (I i) 2 = some (I ((79 + 5 * i : Nat) : Int)) := by
      have := m_at h hi (k := 2) (by omega)
      rw [show 77 + 5 * i + 2 = 79 + 5 * i by omega] at this
      exact this
    have ecl1 : (I ((78 + 5 * i : Nat) : Int)).toNatClampNeg = 78 + 5 * i := by rw [I_cl (by omega) (by omega)]; omega
    have ecl2 : (I ((79 + 5 * i : Nat) : Int)).toNatClampNeg = 79 + 5 * i := by rw [I_cl (by omega) (by omega)]; omega
    have i1 : inb (I ((78 + 5 * i : Nat) : Int)) 147 := by rw [I_inb (by omega) (by omega)]; omega
    have i2 : inb (I ((79 + 5 * i : Nat) : Int)) 147 := by rw [I_inb (by omega) (by omega)]; omega
    have j1 : J σ (78 + 5 * i) = I (σ (78 + 5 * i)) := rfl
    have j2 : J σ (79 + 5 * i) = I (σ (79 + 5 * i)) := rfl
    rw [brn_neg _ _ (by rw [lit_0, I_le (by omega) (by omega) (by omega) (by omega)]; exact q), brn_neg _ _ (by rw [lit_0, I_le (by omega) (by omega) (by omega) (by omega)]; exact q), d1, d2, p1, p2]
    simp only [bnd_some]
    rw [x_from h T hi, grd_pos _ i1, ecl1, j1]
    simp only [bnd_some]
    rw [e1, e2]
    simp only [bnd_some]
    rw [f1, f2]
    simp only [bnd_some]
    rw [x_to h T hi, grd_pos _ i2, ecl2, j2]
    simp only [bnd_some]
    rw [g1, g2]
    simp only [bnd_some]
    exact tail_eq h T hi g3 (by omega) th (v.2 0)
end LI2
section OP8
variable {b : Int} {x : XVal} {y : MVal}
theorem op_line (hR : Rel b x y) (p1 : Int32) : OPK [(0, 0), (2, 1)] b (G_line p1 x) (H_line p1 y) := by
  obtain ⟨σ, π, n, e, ⟨hw, hs, T⟩, hK, hPP, hQ, hO, hS⟩ := hR
  obtain ⟨a, ha, rfl⟩ := I_ex p1
  have h7 : x.1 7 = I (σ 2) := T.1.2.2.2.2.2.2.1
  have h8 : x.1 8 = I (σ 3) := T.1.2.2.2.2.2.2.2.1
  have h9 : x.1 9 = I (σ 4) := T.1.2.2.2.2.2.2.2.2
  unfold G_line H_line F_X11_line F_X12_line J_X12_line_16
  rw [h7, h8, h9, hs]
  by_cases e1 : 0 ≤ a ∧ a ≤ 7
  · obtain ⟨xs2, ys2, u1, u2, u3⟩ := row_eq hw T e1 0 8 0 100 (x.2.1 43) (y.2 6) (by omega) (by omega) ⟨by omega, fun k hk => by omega⟩
    rw [x_lane_p ha e1, m_w7_p ha e1, bnd_some, bnd_some, show F_X11_demandProper (I 1) = some 0 from x_dPt, bnd_some, brn_pos _ _ (by first | rfl | decide), brn_neg _ _ (by decide), brn_pos _ _ (by decide)]
    rw [show F_X8_writeRow (I a) (I (σ 2)) (x.2.1 0) (I (σ 3)) (x.2.1 5) (x.2.1 6) (x.2.1 7) (I (σ 4)) (x.2.1 8) (x.2.1 10) (x.1 38) (x.2.1 43) = _ from u1, show L_X12_line_35 (I a) (J σ) 100 0 0 0 (y.2 6) = _ from u2, bnd_some, bnd_some, bnd_some]
    exact ⟨0, _, _, _, _, 0, by decide, rfl, rfl, rfl, fun _ => rfl, ⟨σ, π, n, e, ⟨hw.mono (by omega), hs, T⟩, hK.mono (by omega), hPP.mono (by omega), hQ, hO, ⟨8, by omega, rfl, rfl, u3.2⟩⟩⟩
  · rw [x_lane_n ha e1, m_w7_n ha e1, bnd_some, bnd_some, show F_X11_demandProper (I 0) = some 2 from x_dPf, bnd_some, brn_neg _ _ (by decide), brn_pos _ _ (by first | rfl | decide), brn_neg _ _ (by decide), bnd_some, bnd_some]
    exact ⟨2, _, _, _, _, 1, by decide, rfl, rfl, rfl, fun q => absurd q (by decide), ⟨σ, π, n, e, ⟨hw.mono (by omega), hs, T⟩, hK.mono (by omega), hPP.mono (by omega), hQ, hO, hS⟩⟩
theorem op_houseLine (hR : Rel b x y) (p1 : Int32) : OPK [(0, 0), (1, 1)] b (G_houseLine p1 x) (H_houseLine p1 y) := by
  obtain ⟨σ, π, n, e, ⟨hw, hs, T⟩, hK, hPP, hQ, hO, hS⟩ := hR
  obtain ⟨a, ha, rfl⟩ := I_ex p1
  have hn := hw.n
  have h1 : x.1 1 = I (σ 0) := T.1.1
  have h7 : x.1 7 = I (σ 2) := T.1.2.2.2.2.2.2.1
  unfold G_houseLine H_houseLine F_X11_houseLine F_X12_houseLine
  rw [h1, h7, hs]
  by_cases e1 : 0 ≤ a ∧ a < σ 2
  · obtain ⟨i, rfl⟩ := Int.eq_ofNat_of_zero_le e1.1
    obtain ⟨m, xs2, ys2, u1, u2, u3⟩ := wh_eq hw T e1.2 (x.1 38) 0 (y.1 8) (x.2.1 43) (y.2 6) (by decide)
    have u2' : ∀ t, J_X12_houseLine_14 (I (i : Int)) (J σ) 0 t (y.1 8) (y.2 6) = some (I (m : Int), 0, I (m : Int), ys2) := fun t => u2
    rw [x_has_p ha (by omega) e1, m_isHouse_p hw ha e1, bnd_some, bnd_some, show F_X11_demandListed (I 1) = some 0 from x_dLt, bnd_some, brn_pos _ _ (by first | rfl | decide), brn_neg _ _ (by decide), u2']
    rw [show F_X8_writeHouse (I (i : Int)) (I (σ 0)) (x.2.1 0) (x.2.1 1) (x.2.1 2) (x.2.1 4) (x.1 38) (x.2.1 43) = _ from u1, bnd_some, bnd_some, bnd_some]
    exact ⟨0, _, _, _, _, 0, by decide, rfl, rfl, rfl, fun _ => rfl, ⟨σ, π, n, e, ⟨hw.mono (by omega), hs, T⟩, hK.mono (by omega), hPP.mono (by omega), hQ, hO, ⟨m, u3.1, rfl, rfl, u3.2⟩⟩⟩
  · unfold J_X12_houseLine_14
    rw [x_has_n ha (by omega) e1, m_isHouse_n hw ha e1, bnd_some, bnd_some, show F_X11_demandListed (I 0) = some 1 from x_dLf, bnd_some, brn_neg _ _ (by decide), brn_pos _ _ (by first | rfl | decide), brn_neg _ _ (by decide), bnd_some, bnd_some]
    exact ⟨1, _, _, _, _, 1, by decide, rfl, rfl, rfl, fun q => absurd q (by decide), ⟨σ, π, n, e, ⟨hw.mono (by omega), hs, T⟩, hK.mono (by omega), hPP.mono (by omega), hQ, hO, hS⟩⟩
end OP8
