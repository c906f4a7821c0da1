/-! ===== lines: a row told over ===== -/
/-- three halls, in the rows 0, 1 and 2, round the column 4 -/
def H3 (σ : Nat → Int) : Prop := σ 3 = 3 ∧ ∀ j : Nat, j < 3 → σ (127 + 3 * j) = j ∧ (0 ≤ σ (128 + 3 * j) ∧ σ (128 + 3 * j) ≤ 3) ∧ (4 ≤ σ (129 + 3 * j) ∧ σ (129 + 3 * j) ≤ 7)
theorem H3_low {σ : Nat → Int} (h : H3 σ) {c : Int} (h1 : 3 ≤ c / 8) : lOn σ c = -1 := by
  unfold lOn
  rw [h.1]
  rcases lIx_sp (inL σ c) (3 : Int).toNat 0 (-1) with ⟨g, -⟩ | ⟨i, g1, g2, g3, -⟩
  · exact g
  · have hi : i < 3 := by have : (3 : Int).toNat = 3 := rfl; omega
    unfold inL at g3
    have a := (h.2 i hi).1
    rw [Bool.and_eq_true] at g3
    have := of_decide_eq_true g3.1
    omega
theorem H3_mid {σ : Nat → Int} (h : H3 σ) {c : Int} (h0 : 0 ≤ c / 8) (h1 : c / 8 < 3) (h2 : md c 8 = 4) : lOn σ c ≠ -1 := by
  unfold lOn
  rw [h.1]
  rcases lIx_sp (inL σ c) (3 : Int).toNat 0 (-1) with ⟨-, g⟩ | ⟨i, g1, g2, g3, g4⟩
  · have g := g (c / 8).toNat (by omega) (by have : (3 : Int).toNat = 3 := rfl; omega)
    have a := h.2 (c / 8).toNat (by omega)
    unfold inL at g
    rw [decide_eq_true (by omega), decide_eq_true (by omega), decide_eq_true (by omega)] at g
    exact absurd g (by decide)
  · rw [g4]
    omega
section ROW
variable {b : Int} {σ : Nat → Int} {x : XVal} {bl : Nat → Int32}
theorem lr_54 (h : WF b σ) (T : TR σ (xT x)) (r8 : Int32 → Int32 → XVal → Option (Int32 × XVal)) (r29 : Int32 → Int32 → Int32 → XVal → Option (Int32 × XVal)) (x3 x4 x7 : Int32) {c : Int} (hc : 0 ≤ c ∧ c ≤ 63) : ∀ (r k f : Nat) (a : Int), (k : Int) + r = σ 2 → r < f →
    L_L_lines_54 bl r8 r29 f (I (σ 2)) x3 x4 (I c) (I a) x7 (I k) x = L_L_lines_90 bl r8 r29 5 (I (σ 2)) x3 x4 (I c) (I (lIx (fun i => decide (σ (77 + 5 * i) = c)) r k a)) x7 (0 : Int32) x := by
  have hn := h.n
  intro r
  induction r with
  | zero =>
    intro k f a hk hf
    obtain ⟨f, rfl⟩ : ∃ g, f = g + 1 := ⟨f - 1, by omega⟩
    rw [L_L_lines_54, brn_pos _ _ (by rw [I_le (by omega) (by omega) (by omega) (by omega)]; omega), lIx]
  | succ r ih =>
    intro k f a hk hf
    obtain ⟨f, rfl⟩ : ∃ g, f = g + 1 := ⟨f - 1, by omega⟩
    have hh := h.house (i := k) (by omega)
    rw [L_L_lines_54, brn_neg _ _ (by rw [I_le (by omega) (by omega) (by omega) (by omega)]; omega), l_of0 h T (by omega), bnd_some, lIx]
    unfold J_L_lines_79
    rw [kk_I]
    by_cases e : σ (77 + 5 * k) = c
    · rw [brn_pos _ _ (congrArg I e), if_pos (decide_eq_true e)]
      exact ih (k + 1) f k (by omega) (by omega)
    · rw [brn_neg _ _ (by rw [I_eq (by omega) (by omega) (by omega) (by omega)]; exact e), if_neg (by rw [decide_eq_false e]; decide)]
      exact ih (k + 1) f a (by omega) (by omega)
theorem lr_90 (h : WF b σ) (T : TR σ (xT x)) (r8 : Int32 → Int32 → XVal → Option (Int32 × XVal)) (r29 : Int32 → Int32 → Int32 → XVal → Option (Int32 × XVal)) (x2 x3 x4 x6 : Int32) {c : Int} (hc : 0 ≤ c ∧ c ≤ 63) : ∀ (r k f : Nat) (a : Int), (k : Int) + r = σ 4 → r < f → -1 ≤ a →
    L_L_lines_90 bl r8 r29 f x2 x3 x4 (I c) x6 (bI (!decide (a = -1))) (I k) x = L_L_lines_90 bl r8 r29 1 x2 x3 x4 (I c) x6 (bI (!decide (lIx (fun j => decide (σ (139 + 2 * j) = c)) r k a = -1))) (I (σ 4)) x := by
  have hq := h.q
  intro r
  induction r with
  | zero =>
    intro k f a hk hf h0
    obtain ⟨f, rfl⟩ : ∃ g, f = g + 1 := ⟨f - 1, by omega⟩
    have ek : I (k : Int) = I (σ 4) := congrArg I (by omega)
    rw [L_L_lines_90, L_L_lines_90, lIx, ek, l_acc4 h T, bnd_some, bnd_some, grd_pos _ rfl, grd_pos _ rfl, brn_pos _ _ (Int32.le_refl _), brn_pos _ _ (Int32.le_refl _)]
  | succ r ih =>
    intro k f a hk hf h0
    obtain ⟨f, rfl⟩ : ∃ g, f = g + 1 := ⟨f - 1, by omega⟩
    have hp : F_L_postOf (I (k : Int)) (0 : Int32) x = some (I (σ (139 + 2 * k))) := by
      rw [lit_0, l_postOf h T (by omega) (by omega)]
      unfold sp_postOf
      rw [if_pos (by omega), if_pos (by omega), if_pos rfl, Int.toNat_natCast]
      rfl
    have pr := h.r (139 + 2 * k)
    rw [L_L_lines_90, l_acc4 h T, bnd_some, grd_pos _ rfl, brn_neg _ _ (by rw [I_le (by omega) (by omega) (by omega) (by omega)]; omega), lIx]
    unfold J_L_lines_117 J_L_lines_122
    rw [kk_I]
    have t1 : (1 : Int32) = bI true := rfl
    have t0 : (0 : Int32) = bI false := rfl
    by_cases e0 : a = -1
    · rw [decide_eq_true e0, brn_pos _ _ (show bI (!true) = 0 from rfl), hp, bnd_some]
      by_cases e : σ (139 + 2 * k) = c
      · have g := ih (k + 1) f k (by omega) (by omega) (by omega)
        rw [decide_eq_false (show ¬ ((k : Int) = -1) by omega)] at g
        rw [brn_pos _ _ (congrArg I e), if_pos (decide_eq_true e)]
        exact g
      · have g := ih (k + 1) f a (by omega) (by omega) h0
        rw [decide_eq_true e0] at g
        rw [brn_neg _ _ (by rw [I_eq (by omega) (by omega) (by omega) (by omega)]; exact e), if_neg (by rw [decide_eq_false e]; decide)]
        exact g
    · rw [decide_eq_false e0, brn_neg _ _ (show ¬ bI (!false) = 0 by decide)]
      by_cases e : σ (139 + 2 * k) = c
      · have g := ih (k + 1) f k (by omega) (by omega) (by omega)
        rw [decide_eq_false (show ¬ ((k : Int) = -1) by omega)] at g
        rw [if_pos (decide_eq_true e)]
        exact g
      · have g := ih (k + 1) f a (by omega) (by omega) h0
        rw [decide_eq_false e0] at g
        rw [if_neg (by rw [decide_eq_false e]; decide)]
        exact g
theorem lr_29 (h : WF b σ) (T : TR σ (xT x)) (h3 : H3 σ) (hbl : ∀ c, c < 64 → bl c = I (σ (13 + c))) (r8 : Int32 → Int32 → XVal → Option (Int32 × XVal)) {a : Nat} (ha : a < 8) (hch : ∀ i : Nat, i < 8 → F_L_character (I i) x = some (sgV σ (8 * (a : Int) + i))) : ∀ (r k f : Nat), k + r = 8 → r < f →
    L_L_lines_29 bl r8 f (I (σ 2)) (I a) (I k) x = r8 (I (σ 2)) (I ((a + 1 : Nat) : Int)) x := by
  have hn := h.n
  have hq := h.q
  intro r
  induction r with
  | zero =>
    intro k f hk hf
    obtain ⟨f, rfl⟩ : ∃ g, f = g + 1 := ⟨f - 1, by omega⟩
    rw [L_L_lines_29, brn_pos _ _ (by rw [lit_8, I_le (by omega) (by omega) (by omega) (by omega)]; omega), kk_I]
  | succ r ih =>
    intro k f hk hf
    obtain ⟨f, rfl⟩ : ∃ g, f = g + 1 := ⟨f - 1, by omega⟩
    have go := ih (k + 1) f (by omega) (by omega)
    obtain ⟨c, hc⟩ : ∃ c : Int, c = 8 * (a : Int) + k := ⟨_, rfl⟩
    have c63 : 0 ≤ c ∧ c ≤ 63 := by omega
    have cr : c / 8 = a := by omega
    have cm : md c 8 = k := by unfold md; omega
    have ea : (8 : Int32) * I a + I k = I c := by rw [lit_8, I_mul, I_add, hc]
    have ch := hch k (by omega)
    rw [← hc] at ch
    have e54 := lr_54 (bl := bl) h T r8 (L_L_lines_29 bl r8 f) (I a) (I k) (0 : Int32) c63 (σ 2).toNat 0 11 (-1) (by omega) (by omega)
    have e90 := lr_90 (bl := bl) h T r8 (L_L_lines_29 bl r8 f) (I (σ 2)) (I a) (I k) (I (hOn σ c)) c63 (σ 4).toNat 0 5 (-1) (by omega) (by omega) (by omega)
    have step : L_L_lines_29 bl r8 (f + 1) (I (σ 2)) (I a) (I k) x = L_L_lines_90 bl r8 (L_L_lines_29 bl r8 f) 1 (I (σ 2)) (I a) (I k) (I c) (I (hOn σ c)) (bI (!decide (pOn σ c = -1))) (I (σ 4)) x := by
      rw [L_L_lines_29, brn_neg _ _ (by rw [lit_8, I_le (by omega) (by omega) (by omega) (by omega)]; omega), ea, m1]
      exact (Eq.trans e54 e90)
    have a1 := hOn_in h c
    have a3 := lOn_in h c
    have hb := blk_at h (c := c) (by omega) (by omega)
    rw [show (13 + c).toNat = 13 + c.toNat by omega] at hb
    have iN : inb (I c) 64 := by rw [I_inb (by omega) (by omega)]; omega
    have ecl : (I c).toNatClampNeg = c.toNat := I_cl (by omega) (by omega)
    rw [step, L_L_lines_90, l_acc4 h T, bnd_some, grd_pos _ rfl, brn_pos _ _ (Int32.le_refl _), ch, bnd_some]
    have j1 : J_L_lines_268 bl r8 (L_L_lines_29 bl r8 f) (1 : Int32) (I (σ 2)) (I a) (I k) x = r8 (I (σ 2)) (I ((a + 1 : Nat) : Int)) x := by
      unfold J_L_lines_268
      rw [brn_neg _ _ (by decide), kk_I]
      exact go
    unfold J_L_lines_229 J_L_lines_263
    by_cases e1 : hOn σ c = -1
    · rw [brn_pos _ _ (by rw [e1]; decide), grd_pos _ iN, ecl, hbl c.toNat (by omega), hb]
      cases e2 : blkB σ c with
      | true =>
        have sg : sgV σ c = 35 := by unfold sgV; rw [if_pos e1, if_pos e2]
        rw [if_pos rfl, brn_neg _ _ (by decide), sg, brn_pos _ _ rfl]
        exact j1
      | false =>
        rw [if_neg (by decide), brn_pos _ _ (by decide)]
        by_cases e3 : pOn σ c = -1
        · rw [decide_eq_true e3, brn_pos _ _ (show bI (!true) = 0 from rfl)]
          by_cases q : 3 ≤ a
          · have sg : sgV σ c = 46 := by unfold sgV; rw [if_pos e1, if_neg (by rw [e2]; decide), if_pos e3, if_pos (H3_low h3 (by omega))]
            rw [brn_pos _ _ (by rw [lit_3, I_le (by omega) (by omega) (by omega) (by omega)]; omega), brn_neg _ _ (by rw [lit_2, I_le (by omega) (by omega) (by omega) (by omega)]; omega), sg, brn_pos _ _ rfl]
            exact j1
          · rw [brn_neg _ _ (by rw [lit_3, I_le (by omega) (by omega) (by omega) (by omega)]; omega)]
            by_cases q4 : k = 4
            · have sg : sgV σ c = 95 := by unfold sgV; rw [if_pos e1, if_neg (by rw [e2]; decide), if_pos e3, if_neg (H3_mid h3 (by omega) (by omega) (by omega))]
              rw [brn_pos _ _ (by rw [q4]; rfl), sg, brn_pos _ _ rfl]
              exact j1
            · rw [brn_neg _ _ (by rw [lit_4, I_eq (by omega) (by omega) (by omega) (by omega)]; omega), brn_pos _ _ (by rw [lit_2, I_le (by omega) (by omega) (by omega) (by omega)]; omega)]
              by_cases e4 : lOn σ c = -1
              · have sg : sgV σ c = 46 := by unfold sgV; rw [if_pos e1, if_neg (by rw [e2]; decide), if_pos e3, if_pos e4]
                rw [sg, brn_neg _ _ (by decide), brn_pos _ _ rfl]
                exact j1
              · have sg : sgV σ c = 95 := by unfold sgV; rw [if_pos e1, if_neg (by rw [e2]; decide), if_pos e3, if_neg e4]
                rw [sg, brn_pos _ _ rfl]
                exact j1
        · have sg : sgV σ c = 111 := by unfold sgV; rw [if_pos e1, if_neg (by rw [e2]; decide), if_neg e3]
          rw [decide_eq_false e3, brn_neg _ _ (show ¬ bI (!false) = 0 by decide), sg, brn_pos _ _ rfl]
          exact j1
    · have sg : sgV σ c = I (48 + hOn σ c) := by unfold sgV; rw [if_neg e1]
      rw [brn_neg _ _ (by rw [lit_0, I_lt (by omega) (by omega) (by omega) (by omega)]; omega), sg, brn_pos _ _ (by rw [lit_48, I_add])]
      exact j1
end ROW
section ROW8
variable {b : Int} {σ π : Nat → Int} {n e : Nat} {bl : Nat → Int32}
theorem lr_8 (h3 : H3 σ) (hbl : ∀ c, c < 64 → bl c = I (σ (13 + c))) : ∀ (r a f : Nat) (x : XVal) (y : MVal), a + r = 8 → r < f → St b σ π n e x y → ∃ x2 y2, L_L_lines_8 bl f (I (σ 2)) (I a) x = L_L_lines_291 bl 11 (I (σ 2)) (0 : Int32) x2 ∧ St b σ π n e x2 y2 := by
  intro r
  induction r with
  | zero =>
    intro a f x y hk hf hR
    obtain ⟨f, rfl⟩ : ∃ g, f = g + 1 := ⟨f - 1, by omega⟩
    refine ⟨x, y, ?_, hR⟩
    rw [L_L_lines_8, brn_pos _ _ (by rw [lit_8, I_le (by omega) (by omega) (by omega) (by omega)]; omega)]
  | succ r ih =>
    intro a f x y hk hf hR
    obtain ⟨f, rfl⟩ : ∃ g, f = g + 1 := ⟨f - 1, by omega⟩
    obtain ⟨x1, y1, z1, R1, ch⟩ := os_line hR (a := a) (by omega)
    obtain ⟨x2, y2, z2, R2⟩ := ih (a + 1) f x1 y1 (by omega) (by omega) R1
    refine ⟨x2, y2, ?_, R2⟩
    rw [L_L_lines_8, brn_neg _ _ (by rw [lit_8, I_le (by omega) (by omega) (by omega) (by omega)]; omega), z1, bnd_some, brn_pos _ _ rfl]
    exact Eq.trans (lr_29 R1.1.1 R1.1.2.2 h3 hbl (L_L_lines_8 bl f) (a := a) (by omega) ch 8 0 9 (by omega) (by omega)) z2
end ROW8
