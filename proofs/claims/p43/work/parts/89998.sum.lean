/-! ===== the sum that undone takes: it tells the row's ===== -/
def hs1 (g : Nat → Int32) (c : Int64) : Nat → Nat → Int64 → Int64
  | 0, _, h => h
  | r + 1, k, h => hs1 g c r (k + 1) (c * h + (g k).toInt64)
def hs2 (σ : Nat → Int) : Nat → Nat → Int64 → Int64
  | 0, _, h => h
  | r + 1, a, h => hs2 σ r (a + 1) (hs1 (fun i => sgV σ (8 * (a : Int) + i)) 43 8 0 h)
def hsR (σ : Nat → Int) (k : Nat) : Int32 := I (rc (sp_rings σ k))
def hsP (σ : Nat → Int) (k : Nat) : Int32 := I (rc (sp_postOf σ ((k / 2 : Nat) : Int) ((k % 2 : Nat) : Int)))
def hsH (σ : Nat → Int) (k : Nat) : Int32 := I (rc (sp_houseOf σ ((k / 8 : Nat) : Int) ((k % 8 : Nat) : Int)))
def hsA (σ : Nat → Int) (k : Nat) : Int32 := I (aV σ 0 0 k)
def hS (σ : Nat → Int) : Int64 := hs1 (hsR σ) 47 4 0 (hs2 σ 8 0 (hs1 (hsP σ) 41 (2 * σ 4).toNat 0 (hs1 (hsH σ) 37 (8 * σ 2).toNat 0 (hs1 (hsA σ) 31 11 0 7))))
section SUM
variable {b : Int} {σ π : Nat → Int} {n e : Nat} {x : XVal} {y : MVal}
theorem su_161 (h : WF b σ) (T : TR σ (xT x)) : ∀ (r k f : Nat) (w : Int64), k + r = 4 → r < f → L_L_sum_161 f w (I k) x = some (hs1 (hsR σ) 47 r k w, x) := by
  intro r
  induction r with
  | zero =>
    intro k f w hk hf
    obtain ⟨f, rfl⟩ : ∃ g, f = g + 1 := ⟨f - 1, by omega⟩
    rw [L_L_sum_161, brn_pos _ _ (by rw [lit_4, I_le (by omega) (by omega) (by omega) (by omega)]; omega), hs1]
  | succ r ih =>
    intro k f w hk hf
    obtain ⟨f, rfl⟩ : ∃ g, f = g + 1 := ⟨f - 1, by omega⟩
    rw [L_L_sum_161, brn_neg _ _ (by rw [lit_4, I_le (by omega) (by omega) (by omega) (by omega)]; omega), l_rings h T (by omega), bnd_some, kk_I, ih (k + 1) f _ (by omega) (by omega), hs1]
    rfl
theorem su_126 {g : Nat → Int32} (hch : ∀ i : Nat, i < 8 → F_L_character (I i) x = some (g i)) (r110 : Int64 → Int32 → XVal → Option (Int64 × XVal)) (x3 : Int32) : ∀ (r k f : Nat) (w : Int64), k + r = 8 → r < f → L_L_sum_126 r110 f w x3 (I k) x = r110 (hs1 g 43 r k w) (x3 + 1) x := by
  intro r
  induction r with
  | zero =>
    intro k f w hk hf
    obtain ⟨f, rfl⟩ : ∃ g, f = g + 1 := ⟨f - 1, by omega⟩
    rw [L_L_sum_126, brn_pos _ _ (by rw [lit_8, I_le (by omega) (by omega) (by omega) (by omega)]; omega), hs1]
  | succ r ih =>
    intro k f w hk hf
    obtain ⟨f, rfl⟩ : ∃ g, f = g + 1 := ⟨f - 1, by omega⟩
    rw [L_L_sum_126, brn_neg _ _ (by rw [lit_8, I_le (by omega) (by omega) (by omega) (by omega)]; omega), hch k (by omega), bnd_some, kk_I, ih (k + 1) f _ (by omega) (by omega), hs1]
theorem su_110 : ∀ (r a f : Nat) (w : Int64) (x : XVal) (y : MVal), a + r = 8 → r < f → St b σ π n e x y → ∃ x2 y2, L_L_sum_110 f w (I a) x = some (hs1 (hsR σ) 47 4 0 (hs2 σ r a w), x2) ∧ St b σ π n e x2 y2 := by
  intro r
  induction r with
  | zero =>
    intro a f w x y hk hf hR
    obtain ⟨f, rfl⟩ : ∃ g, f = g + 1 := ⟨f - 1, by omega⟩
    refine ⟨x, y, ?_, hR⟩
    rw [L_L_sum_110, brn_pos _ _ (by rw [lit_8, I_le (by omega) (by omega) (by omega) (by omega)]; omega), hs2]
    exact su_161 hR.1.1 hR.1.2.2 4 0 5 w (by omega) (by omega)
  | succ r ih =>
    intro a f w x y hk hf hR
    obtain ⟨f, rfl⟩ : ∃ g, f = g + 1 := ⟨f - 1, by omega⟩
    obtain ⟨x1, y1, z1, R1, ch⟩ := os_line hR (a := a) (by omega)
    obtain ⟨x2, y2, z2, R2⟩ := ih (a + 1) f (hs1 (fun i => sgV σ (8 * (a : Int) + i)) 43 8 0 w) x1 y1 (by omega) (by omega) R1
    refine ⟨x2, y2, ?_, R2⟩
    rw [L_L_sum_110, brn_neg _ _ (by rw [lit_8, I_le (by omega) (by omega) (by omega) (by omega)]; omega), z1, bnd_some, hs2, ← z2]
    refine Eq.trans (su_126 (g := fun i => sgV σ (8 * (a : Int) + i)) ch (L_L_sum_110 f) (I a) 8 0 9 w (by omega) (by omega)) ?_
    rw [kk_I]
theorem su_73 (h : WF b σ) (T : TR σ (xT x)) : ∀ (r k f : Nat) (w : Int64), (k : Int) + r = 2 * σ 4 → r < f → L_L_sum_73 f w (I k) x = L_L_sum_110 9 (hs1 (hsP σ) 41 r k w) (0 : Int32) x := by
  have hq := h.q
  intro r
  induction r with
  | zero =>
    intro k f w hk hf
    obtain ⟨f, rfl⟩ : ∃ g, f = g + 1 := ⟨f - 1, by omega⟩
    rw [L_L_sum_73, l_acc4 h T, bnd_some, grd_pos _ rfl, brn_pos _ _ (by show (2 : Int32) * I (σ 4) ≤ I k; rw [lit_2, I_mul, I_le (by omega) (by omega) (by omega) (by omega)]; omega), hs1]
  | succ r ih =>
    intro k f w hk hf
    obtain ⟨f, rfl⟩ : ∃ g, f = g + 1 := ⟨f - 1, by omega⟩
    rw [L_L_sum_73, l_acc4 h T, bnd_some, grd_pos _ rfl, brn_neg _ _ (by show ¬ (2 : Int32) * I (σ 4) ≤ I k; rw [lit_2, I_mul, I_le (by omega) (by omega) (by omega) (by omega)]; omega), lit_2, I_rem (by omega) (by omega) (by omega) (by omega), I_div (by omega) (by omega) (by omega) (by omega), l_postOf h T (by omega) (by omega), bnd_some, kk_I, ih (k + 1) f _ (by omega) (by omega), hs1]
    rfl
theorem su_33 (h : WF b σ) (T : TR σ (xT x)) : ∀ (r k f : Nat) (w : Int64), (k : Int) + r = 8 * σ 2 → r < f → L_L_sum_33 f w (I k) x = L_L_sum_73 9 (hs1 (hsH σ) 37 r k w) (0 : Int32) x := by
  have hn := h.n
  intro r
  induction r with
  | zero =>
    intro k f w hk hf
    obtain ⟨f, rfl⟩ : ∃ g, f = g + 1 := ⟨f - 1, by omega⟩
    rw [L_L_sum_33, l_acc2 h T, bnd_some, grd_pos _ rfl, brn_pos _ _ (by show (8 : Int32) * I (σ 2) ≤ I k; rw [lit_8, I_mul, I_le (by omega) (by omega) (by omega) (by omega)]; omega), hs1]
  | succ r ih =>
    intro k f w hk hf
    obtain ⟨f, rfl⟩ : ∃ g, f = g + 1 := ⟨f - 1, by omega⟩
    rw [L_L_sum_33, l_acc2 h T, bnd_some, grd_pos _ rfl, brn_neg _ _ (by show ¬ (8 : Int32) * I (σ 2) ≤ I k; rw [lit_8, I_mul, I_le (by omega) (by omega) (by omega) (by omega)]; omega), lit_8, I_rem (by omega) (by omega) (by omega) (by omega), I_div (by omega) (by omega) (by omega) (by omega), l_of h T (by omega) (by omega), bnd_some, kk_I, ih (k + 1) f _ (by omega) (by omega), hs1]
    rfl
theorem su_6 (h : WF b σ) (T : TR σ (xT x)) : ∀ (r k f : Nat) (w : Int64), k + r = 11 → r < f → L_L_sum_6 f w (I k) x = L_L_sum_33 81 (hs1 (hsA σ) 31 r k w) (0 : Int32) x := by
  intro r
  induction r with
  | zero =>
    intro k f w hk hf
    obtain ⟨f, rfl⟩ : ∃ g, f = g + 1 := ⟨f - 1, by omega⟩
    rw [L_L_sum_6, brn_pos _ _ (by rw [lit_11, I_le (by omega) (by omega) (by omega) (by omega)]; omega), hs1]
  | succ r ih =>
    intro k f w hk hf
    obtain ⟨f, rfl⟩ : ∃ g, f = g + 1 := ⟨f - 1, by omega⟩
    rw [L_L_sum_6, brn_neg _ _ (by rw [lit_11, I_le (by omega) (by omega) (by omega) (by omega)]; omega), l_acc h T k (by omega), bnd_some, grd_pos _ rfl, kk_I, ih (k + 1) f _ (by omega) (by omega), hs1]
    rfl
theorem su_ok (hR : St b σ π n e x y) : ∃ x2 y2, F_L_sum x = some (hS σ, x2) ∧ St b σ π n e x2 y2 := by
  have h := hR.1.1
  have T := hR.1.2.2
  have hn := h.n
  have hq := h.q
  obtain ⟨x2, y2, z2, R2⟩ := su_110 8 0 9 (hs1 (hsP σ) 41 (2 * σ 4).toNat 0 (hs1 (hsH σ) 37 (8 * σ 2).toNat 0 (hs1 (hsA σ) 31 11 0 7))) x y (by omega) (by omega) hR
  refine ⟨x2, y2, ?_, R2⟩
  unfold F_L_sum hS
  rw [← z2]
  refine Eq.trans (su_6 h T 11 0 12 7 (by omega) (by omega)) ?_
  refine Eq.trans (su_33 h T (8 * σ 2).toNat 0 81 _ (by omega) (by omega)) ?_
  exact su_73 h T (2 * σ 4).toNat 0 9 _ (by omega) (by omega)
/-- the same town by another row that agrees below 147 -/
theorem St_cong {τ : Nat → Int} (hR : St b σ π n e x y) (hr : ∀ k, InR (τ k)) (he : ∀ k : Nat, k < 147 → τ k = σ k) : ∃ y2, St b τ π n e x y2 := by
  obtain ⟨⟨hw, hs, T⟩, hK, hPP, hQ, hO, hS⟩ := hR
  exact ⟨(y.1, (fun k => if k = 0 then J τ else y.2 k)), ⟨⟨WF_cong hw hr he, rfl, TR_cong hw T he⟩, hK, hPP, hQ, hO, hS⟩⟩
end SUM
