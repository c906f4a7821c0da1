/-! ===== undo, save, restore, append ===== -/
theorem x_dR0 : F_X11_demandReady 0 = some 5 := by decide
theorem x_dR1 : F_X11_demandReady 1 = some 0 := by decide
section H4
variable {b : Int} {x : XVal} {y : MVal}
theorem Pst_pop {n e : Nat} {pool : Nat → TVal} {π : Nat → Int} (h : Pst b n e pool π) (hn : 0 < n) : Pst b (n - 1) ((e + 7) % 8) pool π := by
  obtain ⟨h1, h2, h3, h4⟩ := h
  refine ⟨by omega, by omega, h3, fun j hj => ?_⟩
  have := h4 j (by omega)
  rw [show ((e + 7) % 8 + 8 - (n - 1) + j) % 8 = (e + 8 - n + j) % 8 by omega]
  exact this
theorem op_undo (hR : Rel b x y) : OPK [(0, 0), (5, 1)] b (G_undo x) (H_undo y) := by
  obtain ⟨σ, π, n, e, ⟨hw, hs, T⟩, hK, ⟨h28, h29, hm, hp, hP⟩, hQ, hO, hS⟩ := hR
  have hn := hP.1
  have he := hP.2.1
  unfold G_undo H_undo F_X11_undo J_X11_undo_15 F_X4_size F_X12_undo J_X12_undo_13
  rw [hs, hm, hp, h28, h29]
  by_cases e1 : n = 0
  · subst e1
    rw [bnd_some, brn_pos _ _ (by decide), x_dR0, bnd_some, brn_neg _ _ (by decide), brn_pos _ _ (by decide), brn_neg _ _ (by decide)]
    exact ⟨5, _, _, _, _, 1, by decide, rfl, rfl, rfl, fun q => absurd q (by decide), ⟨σ, π, 0, e, ⟨hw.mono (by omega), rfl, T⟩, hK.mono (by omega), ⟨rfl, rfl, rfl, hp, hP.mono (by omega)⟩, hQ, hO, hS⟩⟩
  · have c0 : (0 : Int32).toNatClampNeg = 0 := by decide
    have c1 : (147 : Int32).toNatClampNeg = 147 := by decide
    have lit_1176 : (1176 : Int32) = I 1176 := by decide
    have i1 : ((I (e : Int) + 8) - 1) - ((I (e : Int) + 8) - 1) / 8 * 8 = I (((e + 7) % 8 : Nat) : Int) := by
      rw [lit_8, lit_1, I_add, I_sub, I_rem (by omega) (by omega) (by omega) (by omega)]
      congr 1
      omega
    have i2 : (I (((e + 7) % 8 : Nat) : Int)).toNatClampNeg = (e + 7) % 8 := by rw [I_cl (by omega) (by omega)]; omega
    have i3 : 147 * (I (n : Int) - 1) = I ((147 * (n - 1) : Nat) : Int) := by
      rw [lit_147, lit_1, I_sub, I_mul]
      congr 1
      omega
    have i4 : (I ((147 * (n - 1) : Nat) : Int)).toNatClampNeg = 147 * (n - 1) := by rw [I_cl (by omega) (by omega)]; omega
    have i5 : I (n : Int) - 1 = I ((n - 1 : Nat) : Int) := by
      rw [lit_1, I_sub]
      congr 1
      omega
    obtain ⟨a1, a2⟩ := hP.2.2.2 (n - 1) (by omega)
    rw [show (e + 8 - n + (n - 1)) % 8 = (e + 7) % 8 by omega] at a2
    have ec : ∀ k : Nat, k < 147 → CP π σ (147 * (n - 1)) 0 147 k = (fun k => π (147 * (n - 1) + k)) k := by
      intro k hk
      show CP π σ (147 * (n - 1)) 0 147 k = π (147 * (n - 1) + k)
      unfold CP
      rw [if_pos (by omega)]
      exact congrArg π (by omega)
    have w1 : WF b (CP π σ (147 * (n - 1)) 0 147) := WF_cong a1 (CP_r hP.2.2.1 hw.r) ec
    have w2 := TR_cong a1 (TR_take a1 a2 (xT x)) ec
    unfold F_X4_pop
    rw [bnd_some, brn_neg _ _ (by rw [lit_0, I_le (by omega) (by omega) (by omega) (by omega)]; omega), x_dR1, bnd_some, brn_pos _ _ rfl, i1, grd_pos _ (by rw [I_inb (by omega) (by omega)]; omega), i2, brn_neg _ _ (by rw [lit_0, I_le (by omega) (by omega) (by omega) (by omega)]; omega), x_take9, bnd_some, bnd_some, bnd_some, brn_neg _ _ (by rw [lit_0, I_eq (by omega) (by omega) (by omega) (by omega)]; omega), brn_pos _ _ (by decide), i3, grd_pos _ (by rw [lit_0, lit_147]; exact I_cpy (by omega) (by omega) (by omega) (by omega) (by omega) (by omega) (by omega) (by omega)), i4, c0, c1, J_cpy, i5]
    exact ⟨0, _, _, _, _, 0, by decide, rfl, rfl, rfl, fun _ => rfl, ⟨_, π, n - 1, (e + 7) % 8, ⟨w1.mono (by omega), rfl, w2⟩, hK.mono (by omega), ⟨rfl, rfl, rfl, hp, (Pst_pop hP (by omega)).mono (by omega)⟩, hQ, hO, hS⟩⟩
theorem op_append (hR : Rel b x y) (p1 : Int32) : OPK [(0, 0), (5, 1)] b (G_append p1 x) (H_append p1 y) := by
  obtain ⟨σ, π, n, e, hT, hK, hPP, hQ, ⟨hE, m, m60, h32, h9, hr⟩, hS⟩ := hR
  unfold G_append H_append F_X11_append F_X12_append J_X11_append_15 J_X12_append_15 F_X3_isFull F_X3_add J_X3_add_32
  rw [h32, h9]
  have lit_60' : (60 : Int32) = I 60 := by decide
  by_cases e1 : m = 60
  · subst e1
    rw [brn_neg _ _ (by decide), bnd_some, brn_neg _ _ (by decide), x_dR0, bnd_some, brn_neg _ _ (by decide), brn_pos _ _ (by decide), brn_neg _ _ (by decide)]
    exact ⟨5, _, _, _, _, 1, by decide, rfl, rfl, rfl, fun q => absurd q (by decide), ⟨σ, π, n, e, hT.mono (by omega), hK.mono (by omega), hPP.mono (by omega), hQ, ⟨hE, 60, m60, rfl, rfl, hr⟩, hS⟩⟩
  · have ecl : (I (m : Int)).toNatClampNeg = m := by rw [I_cl (by omega) (by omega)]; omega
    have ei : I (m : Int) + 1 = I ((m + 1 : Nat) : Int) := by rw [lit_1, I_add]; congr 1
    have ib : inb (I (m : Int)) 60 := by rw [I_inb (by omega) (by omega)]; omega
    rw [brn_pos _ _ (by rw [lit_60', I_lt (by omega) (by omega) (by omega) (by omega)]; omega), bnd_some, brn_pos _ _ rfl, x_dR1, bnd_some, brn_pos _ _ rfl, brn_neg _ _ (by rw [lit_60', I_le (by omega) (by omega) (by omega) (by omega)]; omega), grd_pos _ ib, brn_neg _ _ (by rw [lit_60', I_eq (by omega) (by omega) (by omega) (by omega)]; omega), brn_pos _ _ (by decide), grd_pos _ ib, ecl, ei, bnd_some]
    refine ⟨0, _, _, _, _, 0, by decide, rfl, rfl, rfl, fun _ => rfl, ⟨σ, π, n, e, hT.mono (by omega), hK.mono (by omega), hPP.mono (by omega), hQ, ⟨hE, m + 1, by omega, rfl, rfl, fun i hi => ?_⟩, hS⟩⟩
    show upd (x.2.1 36) m (vp_nar .char p1) i = upd (y.2 7) m (vp_nar .char p1) i
    unfold upd
    by_cases q : i = m
    · rw [if_pos q, if_pos q]
    · rw [if_neg q, if_neg q]
      exact hr i (by omega)
end H4
