/-! ===== a town as drawn ===== -/
def DRes (r : Option (XVal × (Nat → Int32))) : Prop := ∃ (x : XVal) (bl : Nat → Int32) (σ : Nat → Int) (y : MVal) (b : Int), r = some (x, bl) ∧ DS b σ bl x y 3 ∧ 0 ≤ b ∧ b ≤ 20000 ∧ σ 2 ≤ 7 ∧ σ 4 ≤ 3
section DRW
variable {L : Nat} {xs : Nat → Int32}
theorem cell_sum (hL : L ≤ 260) {c k : Nat} (hc : c < 100) (hk : k < 100) : ∃ z : Int32, F_L_cell L xs (I c + I k) = some z := by
  rw [I_add]
  exact l_cell hL xs (by omega) (by omega)
theorem j478 (r : Int32 → XVal → (Nat → Int32) → Option (XVal × (Nat → Int32))) {v : Int} {k : Nat} (hv : (0 ≤ v ∧ v < 1000) ∨ v = -3) (x : XVal) (bl : Nat → Int32) : J_L_drawn_478 L xs r (I v) (I k) x bl = r (I ((k + 1 : Nat) : Int)) x bl := by
  have e : I (k : Int) + 1 = I ((k + 1 : Nat) : Int) := by rw [lit_1, I_add]; congr 1
  unfold J_L_drawn_478
  rw [e]
  rcases hv with hv | hv
  · rw [brn_pos _ _ (by rw [lit_0, I_le (by omega) (by omega) (by omega) (by omega)]; omega)]
  · subst hv
    rw [brn_neg _ _ (by decide), brn_pos _ _ (by decide)]
theorem dr_E (hL : L ≤ 260) (bl : Nat → Int32) : ∀ (r k f : Nat) (b : Int) (σ : Nat → Int) (x : XVal) (y : MVal), k + r = 6 → r < f → DS b σ bl x y 3 → 0 ≤ b → b + 300 * r ≤ 20000 → σ 2 ≤ 7 → σ 4 ≤ 3 → DRes (L_L_drawn_347 L xs f (I k) x bl) := by
  intro r
  induction r with
  | zero =>
    intro k f b σ x y hk hf hD hb hb2 h2 h4
    obtain ⟨f, rfl⟩ : ∃ g, f = g + 1 := ⟨f - 1, by omega⟩
    rw [L_L_drawn_347, brn_pos _ _ (by rw [lit_6, I_le (by omega) (by omega) (by omega) (by omega)]; omega)]
    exact ⟨x, bl, σ, y, b, rfl, hD, hb, by omega, h2, h4⟩
  | succ r ih =>
    intro k f b σ x y hk hf hD hb hb2 h2 h4
    obtain ⟨f, rfl⟩ : ∃ g, f = g + 1 := ⟨f - 1, by omega⟩
    obtain ⟨π, n, e, hS, hI, -⟩ := id hD
    have hw := hS.1.1
    have T := hS.1.2.2
    have hn := hw.n
    have hq := hw.q
    have hl8 := hw.look
    rw [L_L_drawn_347, brn_neg _ _ (by rw [lit_6, I_le (by omega) (by omega) (by omega) (by omega)]; omega), l_acc2 hw T, bnd_some, grd_pos _ rfl]
    by_cases e2 : σ 2 ≤ 0
    · rw [brn_pos _ _ (by show I (σ 2) ≤ 0; rw [lit_0, I_le (by omega) (by omega) (by omega) (by omega)]; omega)]
      exact ⟨x, bl, σ, y, b, rfl, hD, hb, by omega, h2, h4⟩
    · rw [brn_neg _ _ (by show ¬ I (σ 2) ≤ 0; rw [lit_0, I_le (by omega) (by omega) (by omega) (by omega)]; omega)]
      obtain ⟨z, hz⟩ := cell_sum (L := L) (xs := xs) hL (c := 18) (k := k) (by omega) (by omega)
      rw [show (18 : Int32) = I ((18 : Nat) : Int) from rfl, hz, bnd_some]
      obtain ⟨a, ha, a0, a1⟩ := ushr_I z 1 (by decide)
      rw [ha]
      obtain ⟨c2, hc2, p0, p1⟩ := ushr_I (I a) 2 (by decide)
      obtain ⟨c6, hc6, q0, q1⟩ := ushr_I (I a) 6 (by decide)
      obtain ⟨c9, hc9, r0, r1⟩ := ushr_I (I a) 9 (by decide)
      -- a ring
      have ring : DRes (J_L_drawn_423 L xs (L_L_drawn_347 L xs f) (I k) (I a) x bl) := by
        unfold J_L_drawn_423
        rw [l_acc2 hw T, bnd_some, grd_pos _ rfl, grd_pos _ (by show ¬ I (σ 2) = 0; rw [lit_0, I_eq (by omega) (by omega) (by omega) (by omega)]; omega), hc2, hc6, hc9]
        show DRes (bnd (F_L_ring (I c2 - I c2 / I (σ 2) * I (σ 2)) (1 + (I c6 - I c6 / 5 * 5)) (I c9 - I c9 / 3 * 3) x) fun o16 => J_L_drawn_478 L xs (L_L_drawn_347 L xs f) o16.1 (I k) o16.2 bl)
        rw [lit_5, lit_3, I_rem p0 p1 (by omega) (by omega), I_rem q0 q1 (by omega) (by omega), I_rem r0 r1 (by omega) (by omega), lit_1, I_add]
        have i0 := Int.emod_nonneg c2 (show σ 2 ≠ 0 by omega)
        have i1 := Int.emod_lt_of_pos c2 (show 0 < σ 2 by omega)
        obtain ⟨i, hi⟩ := Int.eq_ofNat_of_zero_le i0
        rw [hi]
        obtain ⟨v, x', y', σ', g1, g2, g3, g4, g5, g6⟩ := s_ring hD hb (by omega) (i := i) (s := 1 + c6 % 5) (l := c9 % 3) (by omega) (by omega) (by omega) (by omega)
        rw [show F_L_ring (I (i : Int)) (I (1 + c6 % 5)) (I (c9 % 3)) x = _ from g1, bnd_some]
        show DRes (J_L_drawn_478 L xs (L_L_drawn_347 L xs f) (I v) (I k) x' bl)
        rw [j478 _ (Or.inl ⟨g2, g3⟩)]
        exact ih (k + 1) f (b + 300) σ' x' y' (by omega) (by omega) g4 (by omega) (by omega) (by omega) (by omega)
      rw [show I a - I a / 3 * 3 = I (a % 3) by rw [lit_3, I_rem a0 a1 (by omega) (by omega)]]
      by_cases e3 : a % 3 = 0
      · rw [brn_pos _ _ (by rw [lit_0, I_eq (by omega) (by omega) (by omega) (by omega)]; exact e3), hc2, show (30 : Int32) = I 30 from rfl, I_rem p0 p1 (by omega) (by omega), lit_1, I_add]
        obtain ⟨v, x', y', σ', g1, g2, g3, g4, g5, g6⟩ := s_pass hD hb (by omega) (a := 1 + c2 % 30) (by omega) (by omega)
        rw [g1, bnd_some]
        show DRes (J_L_drawn_478 L xs (L_L_drawn_347 L xs f) (I v) (I k) x' bl)
        rw [j478 _ (Or.inl ⟨g2, g3⟩)]
        exact ih (k + 1) f (b + 300) σ' x' y' (by omega) (by omega) g4 (by omega) (by omega) (by omega) (by omega)
      · rw [brn_neg _ _ (by rw [lit_0, I_eq (by omega) (by omega) (by omega) (by omega)]; exact e3)]
        by_cases e4 : a % 3 = 1
        · rw [brn_pos _ _ (by rw [lit_1, I_eq (by omega) (by omega) (by omega) (by omega)]; exact e4)]
          exact ring
        · rw [brn_neg _ _ (by rw [lit_1, I_eq (by omega) (by omega) (by omega) (by omega)]; exact e4), l_acc4 hw T, bnd_some, grd_pos _ rfl]
          by_cases e5 : σ 4 = 0
          · rw [brn_pos _ _ (by show I (σ 4) = 0; rw [lit_0, I_eq (by omega) (by omega) (by omega) (by omega)]; exact e5)]
            exact ring
          · rw [brn_neg _ _ (by show ¬ I (σ 4) = 0; rw [lit_0, I_eq (by omega) (by omega) (by omega) (by omega)]; exact e5), l_acc10 hw T, bnd_some, grd_pos _ rfl]
            by_cases e6 : 0 ≤ σ 8 - 1
            · rw [brn_pos _ _ (by show 0 ≤ I (σ 8 - 1); rw [lit_0, I_le (by omega) (by omega) (by omega) (by omega)]; exact e6), bnd_some, grd_pos _ rfl, grd_pos _ (by show ¬ I (σ 4) = 0; rw [lit_0, I_eq (by omega) (by omega) (by omega) (by omega)]; exact e5), hc2, hc6]
              show DRes (bnd (F_L_tell (I c2 - I c2 / I (σ 4) * I (σ 4)) (I c6 - I c6 / 9 * 9) x) fun o28 => J_L_drawn_478 L xs (L_L_drawn_347 L xs f) o28.1 (I k) o28.2 bl)
              rw [lit_9, I_rem p0 p1 (by omega) (by omega), I_rem q0 q1 (by omega) (by omega)]
              have i0 := Int.emod_nonneg c2 (show σ 4 ≠ 0 by omega)
              have i1 := Int.emod_lt_of_pos c2 (show 0 < σ 4 by omega)
              obtain ⟨v, x', y', σ', g1, g2, g4, g5, g6⟩ := s_tell hD hb (by omega) (p := c2 % σ 4) (t := c6 % 9) ⟨i0, i1⟩ (by omega)
              rw [g1, bnd_some]
              show DRes (J_L_drawn_478 L xs (L_L_drawn_347 L xs f) (I v) (I k) x' bl)
              rw [j478 _ g2]
              exact ih (k + 1) f (b + 300) σ' x' y' (by omega) (by omega) g4 (by omega) (by omega) (by omega) (by omega)
            · rw [brn_neg _ _ (by show ¬ 0 ≤ I (σ 8 - 1); rw [lit_0, I_le (by omega) (by omega) (by omega) (by omega)]; exact e6)]
              exact ring
theorem kk_I (k : Nat) : I (k : Int) + 1 = I ((k + 1 : Nat) : Int) := by rw [lit_1, I_add]; congr 1
theorem dr_D (hL : L ≤ 260) (bl : Nat → Int32) : ∀ (r k f : Nat) (b : Int) (σ : Nat → Int) (x : XVal) (y : MVal), k + r = 3 → r < f → DS b σ bl x y 3 → 0 ≤ b → b + 300 * r + 1800 ≤ 20000 → σ 2 ≤ 7 → σ 4 ≤ k → DRes (L_L_drawn_278 L xs f (I k) x bl) := by
  intro r
  induction r with
  | zero =>
    intro k f b σ x y hk hf hD hb hb2 h2 h4
    obtain ⟨f, rfl⟩ : ∃ g, f = g + 1 := ⟨f - 1, by omega⟩
    rw [L_L_drawn_278, brn_pos _ _ (by rw [lit_3, I_le (by omega) (by omega) (by omega) (by omega)]; omega), lit_0]
    exact dr_E hL bl 6 0 7 b σ x y (by omega) (by omega) hD hb (by omega) h2 (by omega)
  | succ r ih =>
    intro k f b σ x y hk hf hD hb hb2 h2 h4
    obtain ⟨f, rfl⟩ : ∃ g, f = g + 1 := ⟨f - 1, by omega⟩
    obtain ⟨z, hz⟩ := cell_sum (L := L) (xs := xs) hL (c := 15) (k := k) (by omega) (by omega)
    rw [L_L_drawn_278, brn_neg _ _ (by rw [lit_3, I_le (by omega) (by omega) (by omega) (by omega)]; omega), show (15 : Int32) = I ((15 : Nat) : Int) from rfl, hz, bnd_some]
    obtain ⟨a, ha, a0, a1⟩ := ushr_I z 1 (by decide)
    rw [ha, lit_64, I_rem a0 a1 (by omega) (by omega), kk_I]
    obtain ⟨v, x', y', σ', g1, g2, g3, g4⟩ := s_post hD hb (by omega) (a := a % 64) (by omega) (by omega)
    rw [g1, bnd_some]
    have go := ih (k + 1) f (b + 300) σ' x' y' (by omega) (by omega) g2 (by omega) (by omega) (by omega) (by omega)
    rcases g4 with ⟨v0, v1, -⟩ | ⟨rfl, -, g5 | g5⟩
    · rw [brn_neg _ _ (by show ¬ I v = -1; rw [show (-1 : Int32) = I (-1) from rfl, I_eq (by omega) (by omega) (by omega) (by omega)]; omega), brn_neg _ _ (by show ¬ I v = -2; rw [show (-2 : Int32) = I (-2) from rfl, I_eq (by omega) (by omega) (by omega) (by omega)]; omega)]
      exact go
    · rw [brn_neg _ _ (by show ¬ I (-2) = -1; decide), brn_pos _ _ (by show I (-2) = -2; decide)]
      show DRes (bnd (F_L_refusal (0 : Int32) x') _)
      rw [l_refusal (by omega) (by omega) g5, bnd_some, brn_pos _ _ (by decide)]
      exact go
    · rw [brn_neg _ _ (by show ¬ I (-2) = -1; decide), brn_pos _ _ (by show I (-2) = -2; decide)]
      show DRes (bnd (F_L_refusal (0 : Int32) x') _)
      rw [l_refusal (by omega) (by omega) g5, bnd_some, brn_neg _ _ (by decide), bnd_some, brn_pos _ _ (by decide)]
      exact go
theorem dr_C (hL : L ≤ 260) (bl : Nat → Int32) : ∀ (r k f : Nat) (b : Int) (σ : Nat → Int) (x : XVal) (y : MVal), k + r = 3 → r < f → DS b σ bl x y k → 0 ≤ b → b + 300 * r + 2700 ≤ 20000 → σ 2 ≤ 7 → σ 4 = 0 → DRes (L_L_drawn_225 L xs f (I k) x bl) := by
  intro r
  induction r with
  | zero =>
    intro k f b σ x y hk hf hD hb hb2 h2 h4
    obtain ⟨f, rfl⟩ : ∃ g, f = g + 1 := ⟨f - 1, by omega⟩
    obtain rfl : k = 3 := by omega
    rw [L_L_drawn_225, brn_pos _ _ (by decide), lit_0]
    exact dr_D hL bl 3 0 4 b σ x y (by omega) (by omega) hD hb (by omega) h2 (by omega)
  | succ r ih =>
    intro k f b σ x y hk hf hD hb hb2 h2 h4
    obtain ⟨f, rfl⟩ : ∃ g, f = g + 1 := ⟨f - 1, by omega⟩
    obtain ⟨z, hz⟩ := cell_sum (L := L) (xs := xs) hL (c := 12) (k := k) (by omega) (by omega)
    rw [L_L_drawn_225, brn_neg _ _ (by rw [lit_3, I_le (by omega) (by omega) (by omega) (by omega)]; omega), show (12 : Int32) = I ((12 : Nat) : Int) from rfl, hz, bnd_some]
    obtain ⟨a, ha, a0, a1⟩ := ushr_I z 1 (by decide)
    obtain ⟨c, hc, c0, c1⟩ := ushr_I (I a) 2 (by decide)
    rw [ha, hc, lit_4, I_rem a0 a1 (by omega) (by omega), I_rem c0 c1 (by omega) (by omega), I_add, kk_I]
    obtain ⟨x', y', σ', g1, g2, g3, g4⟩ := s_hall hD hb (by omega) (by omega) (f := a % 4) (l := 4 + c % 4) (by omega) (by omega)
    rw [g1, bnd_some, brn_pos _ _ rfl]
    exact ih (k + 1) f (b + 300) σ' x' y' (by omega) (by omega) g2 (by omega) (by omega) (by omega) (by omega)
theorem dr_B (hL : L ≤ 260) (bl : Nat → Int32) : ∀ (r k f : Nat) (b : Int) (σ : Nat → Int) (x : XVal) (y : MVal), k + r = 7 → r < f → DS b σ bl x y 0 → 0 ≤ b → b + 300 * r + 3600 ≤ 20000 → σ 2 ≤ k → σ 4 = 0 → DRes (L_L_drawn_108 L xs f (I k) x bl) := by
  intro r
  induction r with
  | zero =>
    intro k f b σ x y hk hf hD hb hb2 h2 h4
    obtain ⟨f, rfl⟩ : ∃ g, f = g + 1 := ⟨f - 1, by omega⟩
    rw [L_L_drawn_108, brn_pos _ _ (by rw [lit_7, I_le (by omega) (by omega) (by omega) (by omega)]; omega), lit_0]
    exact dr_C hL bl 3 0 4 b σ x y (by omega) (by omega) hD hb (by omega) (by omega) h4
  | succ r ih =>
    intro k f b σ x y hk hf hD hb hb2 h2 h4
    obtain ⟨f, rfl⟩ : ∃ g, f = g + 1 := ⟨f - 1, by omega⟩
    obtain ⟨z, hz⟩ := cell_sum (L := L) (xs := xs) hL (c := 5) (k := k) (by omega) (by omega)
    obtain ⟨a, ha, a0, a1⟩ := ushr_I z 1 (by decide)
    obtain ⟨c6, hc6, q0, q1⟩ := ushr_I (I a) 6 (by decide)
    obtain ⟨c8, hc8, s0, s1⟩ := ushr_I (I a) 8 (by decide)
    obtain ⟨c13, hc13, t0, t1⟩ := ushr_I (I a) 13 (by decide)
    have step : ∀ c : Int, 0 ≤ c → c ≤ 63 → DRes (J_L_drawn_162 L xs (L_L_drawn_108 L xs f) (I c) (I k) (I a) x bl) := by
      intro c h0 h1
      unfold J_L_drawn_162
      rw [hc8, hc13, lit_24, I_rem s0 s1 (by omega) (by omega), I_rem t0 t1 (by omega) (by omega), kk_I]
      obtain ⟨v, x', y', σ', g1, g2, g3, g4⟩ := s_house hD hb (by omega) (a := c) (f := c8 % 24) (g := c13 % 24) ⟨h0, h1⟩ (by omega) (by omega) (by omega)
      rw [g1, bnd_some]
      have go := ih (k + 1) f (b + 300) σ' x' y' (by omega) (by omega) g2 (by omega) (by omega) (by omega) (by omega)
      rcases g4 with ⟨v0, v1, -⟩ | ⟨rfl, -, g5 | g5⟩
      · rw [brn_neg _ _ (by show ¬ I v = -1; rw [show (-1 : Int32) = I (-1) from rfl, I_eq (by omega) (by omega) (by omega) (by omega)]; omega), brn_neg _ _ (by show ¬ I v = -2; rw [show (-2 : Int32) = I (-2) from rfl, I_eq (by omega) (by omega) (by omega) (by omega)]; omega)]
        exact go
      · rw [brn_neg _ _ (by show ¬ I (-2) = -1; decide), brn_pos _ _ (by show I (-2) = -2; decide)]
        show DRes (bnd (F_L_refusal (0 : Int32) x') _)
        rw [l_refusal (by omega) (by omega) g5, bnd_some, brn_pos _ _ (by decide)]
        exact go
      · rw [brn_neg _ _ (by show ¬ I (-2) = -1; decide), brn_pos _ _ (by show I (-2) = -2; decide)]
        show DRes (bnd (F_L_refusal (0 : Int32) x') _)
        rw [l_refusal (by omega) (by omega) g5, bnd_some, brn_neg _ _ (by decide), bnd_some, brn_pos _ _ (by decide)]
        exact go
    rw [L_L_drawn_108, brn_neg _ _ (by rw [lit_7, I_le (by omega) (by omega) (by omega) (by omega)]; omega), show (5 : Int32) = I ((5 : Nat) : Int) from rfl, hz, bnd_some, ha]
    by_cases e4 : 4 ≤ k
    · rw [brn_pos _ _ (by rw [lit_4, I_le (by omega) (by omega) (by omega) (by omega)]; omega), lit_64, I_rem a0 a1 (by omega) (by omega)]
      exact step _ (by omega) (by omega)
    · rw [brn_neg _ _ (by rw [lit_4, I_le (by omega) (by omega) (by omega) (by omega)]; omega), hc6, lit_3, lit_8, I_rem q0 q1 (by omega) (by omega), I_rem a0 a1 (by omega) (by omega), I_mul, I_add]
      exact step _ (by omega) (by omega)
end DRW
