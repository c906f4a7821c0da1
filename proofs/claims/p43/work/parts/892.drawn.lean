/-! ===== a town as drawn, from the blocks on ===== -/
theorem St_start : St 0 s0 s0 0 0 x0 y0 := ⟨⟨WF_zero s0_z, J_zero, TR_zero s0_z⟩, ⟨rfl, Or.inl rfl⟩, ⟨lit_0, lit_0, lit_0, J_zero, by omega, by omega, fun k => ⟨by rw [s0_z]; omega, by rw [s0_z]; omega⟩, fun j hj => absurd hj (by omega)⟩, Or.inl ⟨rfl, rfl⟩, ⟨rfl, 0, by omega, lit_0, lit_0, fun i hi => absurd hi (by omega)⟩, ⟨0, by omega, lit_0, lit_0, fun i hi => absurd hi (by omega)⟩⟩
theorem DS_start : DS 0 s0 (fun _ => 0) x0 y0 0 := ⟨s0, 0, 0, St_start, ⟨rfl, rfl, ⟨by decide, by decide⟩, ⟨fun h => h, fun h => h⟩, fun _ j hj => absurd hj (by show ¬ (j : Int) < 0; omega)⟩, fun _ _ => lit_0, rfl, fun j hj => absurd hj (Nat.not_lt_zero _)⟩
section DRA
variable {L : Nat} {xs : Nat → Int32}
theorem ushr_at (z : Int32) {k : Nat} (hk : k < 16) : ∃ a : Int, ushr z ((1 : Int32) + (6 : Int32) * (I k - I k / (4 : Int32) * (4 : Int32))) = I a ∧ 0 ≤ a ∧ a < 2147483648 := by
  have : ∀ k, k < 16 → 1 ≤ (((1 : Int32) + (6 : Int32) * (I ((k : Nat) : Int) - I ((k : Nat) : Int) / (4 : Int32) * (4 : Int32))).toUInt32 &&& Int32.toUInt32 31).toNat := by decide +kernel
  exact ushr_I z _ (this k hk)
theorem dr_A (hL : L ≤ 260) {c : Int} (hc0 : 0 ≤ c) (hc1 : c < 2147483648) : ∀ (r k f : Nat) (b : Int) (σ : Nat → Int) (bl : Nat → Int32) (x : XVal) (y : MVal), k + r = 16 → r < f → DS b σ bl x y 0 → 0 ≤ b → b + 300 * r + 6000 ≤ 20000 → σ 2 = 0 → σ 4 = 0 → DRes (L_L_drawn_19 L xs f (I c) (I k) x bl) := by
  intro r
  induction r with
  | zero =>
    intro k f b σ bl x y hk hf hD hb hb2 h2 h4
    obtain ⟨f, rfl⟩ : ∃ g, f = g + 1 := ⟨f - 1, by omega⟩
    rw [L_L_drawn_19, brn_pos _ _ (by rw [show (16 : Int32) = I 16 from rfl, I_le (by omega) (by omega) (by omega) (by omega)]; omega), lit_0]
    exact dr_B hL bl 7 0 8 b σ x y (by omega) (by omega) hD hb (by omega) (by omega) h4
  | succ r ih =>
    intro k f b σ bl x y hk hf hD hb hb2 h2 h4
    obtain ⟨f, rfl⟩ : ∃ g, f = g + 1 := ⟨f - 1, by omega⟩
    obtain ⟨π, n, e, hS, hI, hbl, -⟩ := id hD
    have hw := hS.1.1
    obtain ⟨z, hz⟩ : ∃ z : Int32, F_L_cell L xs ((1 : Int32) + I k / (4 : Int32)) = some z := by
      rw [lit_1, lit_4, I_div (by omega) (by omega) (by omega) (by omega), I_add]
      exact l_cell hL xs (by omega) (by omega)
    obtain ⟨a, ha, a0, a1⟩ := ushr_at z (k := k) (by omega)
    rw [L_L_drawn_19, brn_neg _ _ (by rw [show (16 : Int32) = I 16 from rfl, I_le (by omega) (by omega) (by omega) (by omega)]; omega), hz, bnd_some, ha, lit_64, I_rem a0 a1 (by omega) (by omega), kk_I]
    by_cases e1 : I c - I c / (17 : Int32) * (17 : Int32) ≤ I (k : Int)
    · rw [brn_pos _ _ e1]
      exact ih (k + 1) f b σ bl x y (by omega) (by omega) hD hb (by omega) h2 h4
    · rw [brn_neg _ _ e1]
      have m0 : 0 ≤ a % 64 ∧ a % 64 ≤ 63 := by omega
      obtain ⟨p, hp⟩ : ∃ p : Int, p = a % 64 := ⟨_, rfl⟩
      rw [← hp] at m0 ⊢
      have hin : inb (I p) 64 := by rw [I_inb (by omega) (by omega)]; omega
      have hcl : (I p).toNatClampNeg = p.toNat := I_cl (by omega) (by omega)
      have hb0 := hbl p.toNat (by omega)
      have hk0 := hw.blk (c := p.toNat) (by omega)
      obtain ⟨x', y', σ', g1, g2, g3, g4⟩ := s_block hD hb (by omega) h2 (a := p) m0
      have go := ih (k + 1) f (b + 300) σ' (upd bl p.toNat (I (1 - σ (13 + p.toNat)))) x' y' (by omega) (by omega) g2 (by omega) (by omega) g3 (by omega)
      rw [grd_pos _ hin]
      have u1 : ∀ (m : Nat) (w : Int32), upd bl m w m = w := fun m w => by unfold upd; rw [if_pos rfl]
      rcases hk0 with q | q
      · rw [brn_pos _ _ (by rw [hcl, hb0, q]; rfl)]
        unfold J_L_drawn_75 J_L_drawn_94
        rw [grd_pos _ hin, g1, bnd_some, grd_pos _ hin, brn_neg _ _ (by rw [u1]; decide), brn_pos _ _ (by show I (1 - σ (13 + p.toNat)) = 1; rw [q]; decide), show upd bl (I p).toNatClampNeg (vp_nar .boolean 1) = upd bl p.toNat (I (1 - σ (13 + p.toNat))) from by rw [hcl, q]; rfl, kk_I]
        exact go
      · rw [brn_neg _ _ (by rw [hcl, hb0, q]; decide)]
        unfold J_L_drawn_75 J_L_drawn_94
        rw [grd_pos _ hin, g1, bnd_some, grd_pos _ hin, brn_pos _ _ (by rw [u1]; decide), brn_pos _ _ (by show I (1 - σ (13 + p.toNat)) = 0; rw [q]; decide), show upd bl (I p).toNatClampNeg (vp_nar .boolean 0) = upd bl p.toNat (I (1 - σ (13 + p.toNat))) from by rw [hcl, q]; rfl, kk_I]
        exact go
theorem drawn_ok (hL : L ≤ 260) : DRes (F_L_drawn L xs (fun _ => 0)) := by
  unfold F_L_drawn
  obtain ⟨z, hz⟩ := l_cell hL xs (k := 0) (by omega) (by omega)
  obtain ⟨a, ha, a0, a1⟩ := ushr_I z 1 (by decide)
  rw [show F_L_cell L xs (0 : Int32) = some z from hz, bnd_some, ha, lit_0]
  exact dr_A hL a0 a1 16 0 17 0 s0 (fun _ => 0) x0 y0 (by omega) (by omega) DS_start (by omega) (by omega) rfl rfl
end DRA
