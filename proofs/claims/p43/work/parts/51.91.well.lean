/-! ===== all is well ===== -/
section WEL
variable {b : Int} {σ : Nat → Int} {v : TVal}
theorem x_alike (h : WF b σ) (T : TR σ v) : F_X2_areSleepersAlike (I (σ 2)) (v.2 1) (v.2 2) = some (I 1) := by
  have go : ∀ (r k f : Nat), k + r = 24 → r < f → L_X2_areSleepersAlike_2 (I (σ 2)) (v.2 1) (v.2 2) f (I k) = some (I 1) := by
    intro r
    induction r with
    | zero =>
      intro k f hk hf
      obtain ⟨f, rfl⟩ : ∃ g, f = g + 1 := ⟨f - 1, by omega⟩
      obtain rfl : k = 24 := by omega
      rw [L_X2_areSleepersAlike_2, brn_pos _ _ (by decide)]
      rfl
    | succ r ih =>
      intro k f hk hf
      obtain ⟨f, rfl⟩ : ∃ g, f = g + 1 := ⟨f - 1, by omega⟩
      have kk : I (k : Int) + 1 = I ((k + 1 : Nat) : Int) := by rw [lit_1, I_add]; congr 1
      rw [L_X2_areSleepersAlike_2, brn_neg _ _ (by rw [lit_24, I_le (by omega) (by omega) (by omega) (by omega)]; omega), x_sleepers h T.a1 T.a2 (t := (k : Int)) (by omega) (by omega), bnd_some, x_turns h T (t := (k : Int)) (by omega) (by omega), bnd_some, brn_pos _ _ (by first | rfl | decide), kk]
      exact ih (k + 1) f (by omega) (by omega)
  exact go 24 0 100 (by omega) (by omega)
theorem x_waysAlike (h : WF b σ) (T : TR σ v) (st q l : Nat → Int32) : ∃ st2 q2 l2, F_X10_areWaysAlike (I (σ 2)) (v.2 0) (v.2 10) st q l = some (I 1, st2, q2, l2) := by
  have hn := h.n
  unfold F_X10_areWaysAlike
  by_cases e : σ 2 ≤ 0
  · rw [show F_X2_has 0 (I (σ 2)) = some (I 0) from x_has_n (a := 0) (by omega) (by omega) (by omega), bnd_some, brn_pos _ _ (by first | rfl | decide)]
    exact ⟨_, _, _, rfl⟩
  · have hc := h.house (i := 0) (by omega)
    obtain ⟨c, ec⟩ := Int.eq_ofNat_of_zero_le hc.1.1
    have c64 : c < 64 := by omega
    have x0 : F_X2_cellAt 0 (v.2 0) = some (I (c : Int)) := by
      rw [← ec]
      exact x_hcell h T.a0 (i := 0) (by omega)
    obtain ⟨st2, q2, D, u1, u2, hW⟩ := x_measure h T.a10 c64 st q
    obtain ⟨lo, v1, v2⟩ := x_lower h T.a10 c64 hW l
    have go : ∀ (r k f : Nat), (k : Int) + r = σ 2 → r < f → L_X10_areWaysAlike_41 (I (σ 2)) (v.2 0) (v.2 10) f (I k) st2 q2 lo = some (I 1, st2, q2, lo) := by
      intro r
      induction r with
      | zero =>
        intro k f hk hf
        obtain ⟨f, rfl⟩ : ∃ g, f = g + 1 := ⟨f - 1, by omega⟩
        rw [L_X10_areWaysAlike_41]
        unfold F_X2_size
        rw [bnd_some, brn_pos _ _ (by rw [I_le (by omega) (by omega) (by omega) (by omega)]; omega)]
        rfl
      | succ r ih =>
        intro k f hk hf
        obtain ⟨f, rfl⟩ : ∃ g, f = g + 1 := ⟨f - 1, by omega⟩
        have hd := h.house (i := k) (by omega)
        obtain ⟨d, ed⟩ := Int.eq_ofNat_of_zero_le hd.1.1
        have kk : I (k : Int) + 1 = I ((k + 1 : Nat) : Int) := by rw [lit_1, I_add]; congr 1
        rw [L_X10_areWaysAlike_41]
        unfold F_X2_size
        rw [bnd_some, brn_neg _ _ (by rw [I_le (by omega) (by omega) (by omega) (by omega)]; omega), x_hcell h T.a0 (i := k) (by omega), bnd_some, ed, show F_X7_at 64 (I ((d : Nat) : Int)) st2 = _ from x_at64 u2 (i := d) (by omega) (by omega), bnd_some, show F_X7_at 64 (I ((d : Nat) : Int)) lo = _ from x_at64 v2 (i := d) (by omega) (by omega), bnd_some, brn_pos _ _ (by first | rfl | decide), kk]
        exact ih (k + 1) f (by omega) (by omega)
    rw [show F_X2_has 0 (I (σ 2)) = some (I 1) from x_has_p (a := 0) (by omega) (by omega) (by omega), bnd_some, brn_neg _ _ (by decide), x0, bnd_some, u1, bnd_some, bnd_some, v1, bnd_some]
    exact ⟨_, _, _, go (σ 2).toNat 0 100 (by omega) (by omega)⟩
theorem x_complete (h : WF b σ) (T : TR σ v) : F_X9_areRingsComplete (I (σ 5)) (I (σ 6)) (v.2 11) = some (I 1) := by
  have hs := h.sums.2.2.2.2.2
  unfold F_X9_areRingsComplete F_X9_countRings
  rw [x_sum (N := 4) (by decide) (f := fun k => σ (9 + k)) T.a11, bnd_some, bnd_some, I_add]
  have e : sumI (fun k => σ (9 + k)) 4 0 = σ 5 + σ 6 := by
    show σ 9 + (σ 10 + (σ 11 + (σ 12 + 0))) = _
    omega
  rw [e, brn_pos _ _ (by first | rfl | decide)]
  rfl
theorem op_isWell {x : XVal} {y : MVal} (hR : Rel b x y) : OPK [(0, 0)] b (G_isWell x) (H_isWell y) := by
  obtain ⟨σ, π, n, e, ⟨hw, hs, T⟩, hK, hPP, hQ, hO, hS⟩ := hR
  have h3 : x.1 3 = I (σ 8 - 1) := T.1.2.2.1
  have h4 : x.1 4 = I (σ 5) := T.1.2.2.2.1
  have h5 : x.1 5 = I (σ 6) := T.1.2.2.2.2.1
  have h7 : x.1 7 = I (σ 2) := T.1.2.2.2.2.2.2.1
  have h9 : x.1 9 = I (σ 4) := T.1.2.2.2.2.2.2.2.2
  have hl := hw.look
  obtain ⟨st2, q2, l2, z1⟩ := x_waysAlike (v := xT x) hw T (x.2.1 39) (x.2.1 40) (x.2.1 41)
  have j40 : J_X11_isWell_40 (I (σ 8 - 1)) (I (σ 5)) (I (σ 6)) (I (σ 2)) (x.2.1 0) (x.2.1 1) (x.2.1 2) (I (σ 4)) (x.2.1 8) (x.2.1 9) (x.2.1 10) (x.2.1 11) (x.2.1 39) (x.2.1 40) (x.2.1 41) = some (1, st2, q2, l2) := by
    unfold J_X11_isWell_40
    rw [show F_X10_areWaysAlike (I (σ 2)) (x.2.1 0) (x.2.1 10) (x.2.1 39) (x.2.1 40) (x.2.1 41) = _ from z1, bnd_some]
    dsimp only
    rw [brn_neg _ _ (by decide), show F_X9_areRingsComplete (I (σ 5)) (I (σ 6)) (x.2.1 11) = _ from x_complete (v := xT x) hw T, bnd_some, brn_neg _ _ (by decide)]
  have hG : F_X11_isWell (I (σ 8 - 1)) (I (σ 5)) (I (σ 6)) (I (σ 2)) (x.2.1 0) (x.2.1 1) (x.2.1 2) (I (σ 4)) (x.2.1 8) (x.2.1 9) (x.2.1 10) (x.2.1 11) (x.2.1 39) (x.2.1 40) (x.2.1 41) = some (1, st2, q2, l2) := by
    unfold F_X11_isWell F_X9_hasPrank
    rw [show F_X2_areSleepersAlike (I (σ 2)) (x.2.1 1) (x.2.1 2) = _ from x_alike (v := xT x) hw T, bnd_some, brn_neg _ _ (by decide)]
    by_cases q : σ 8 = 0
    · rw [brn_pos (c := I (σ 8 - 1) = -1) _ _ (by rw [q]; decide), bnd_some, brn_pos _ _ (by first | rfl | decide)]
      exact j40
    · rw [brn_neg (c := I (σ 8 - 1) = -1) _ _ (by rw [m1, I_eq (by omega) (by omega) (by omega) (by omega)]; omega), bnd_some, brn_neg _ _ (by decide), show F_X9_countFits (I (σ 4)) (x.2.1 8) (x.2.1 9) (x.2.1 10) = _ from x_canN hw T.a8 T.a9 T.a10, bnd_some, show F_X9_countFitsAround (I (σ 4)) (x.2.1 8) (x.2.1 9) (x.2.1 10) = _ from x_around (v := xT x) hw T, bnd_some, brn_pos _ _ (by first | rfl | decide)]
      exact j40
  unfold G_isWell H_isWell F_X12_isWell
  rw [h3, h4, h5, h7, h9, hG, bnd_some, bnd_some]
  exact ⟨0, _, _, _, _, 0, by decide, rfl, rfl, rfl, fun _ => rfl, ⟨σ, π, n, e, ⟨hw.mono (by omega), hs, T⟩, hK.mono (by omega), hPP.mono (by omega), hQ, hO, hS⟩⟩
end WEL
