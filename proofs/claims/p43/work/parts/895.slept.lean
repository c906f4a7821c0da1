/-! ===== slept, to its end ===== -/
section SLR
variable {b : Int} {σ : Nat → Int} {x : XVal}
theorem sl_142 (h : WF b σ) (T : TR σ (xT x)) (r130 : Int32 → Int32 → Int32 → Int32 → Int32 → Int32 → Int32 → Option Int32) (x1 x2 x3 x4 x5 x6 : Int32) {i : Nat} (hi : (i : Int) < σ 2) : ∀ (r k f : Nat) (m : Int), k + r = 24 → r < f → 0 ≤ m → m ≤ k →
    L_L_slept_142 x r130 f x1 x2 x3 x4 x5 x6 (I i) (I m) (I k) = L_L_slept_142 x r130 1 x1 x2 x3 x4 x5 x6 (I i) (I (m + cnt (fun t => slB σ i t) r k)) (I 24) := by
  have hn := h.n
  intro r
  induction r with
  | zero =>
    intro k f m hk hf m0 m1
    obtain ⟨f, rfl⟩ : ∃ g, f = g + 1 := ⟨f - 1, by omega⟩
    obtain rfl : k = 24 := by omega
    rw [show m + cnt (fun t => slB σ i t) 0 24 = m from Int.add_zero m, L_L_slept_142, L_L_slept_142, brn_pos _ _ (by decide), brn_pos _ _ (by decide)]
  | succ r ih =>
    intro k f m hk hf m0 m1
    obtain ⟨f, rfl⟩ : ∃ g, f = g + 1 := ⟨f - 1, by omega⟩
    rw [L_L_slept_142, brn_neg _ _ (by rw [lit_24, I_le (by omega) (by omega) (by omega) (by omega)]; omega), l_sleeps h T hi (k := k) (by omega) (by omega), bnd_some]
    unfold J_L_slept_167
    rw [kk_I, lit_0, lit_1, I_add, I_add]
    cases hb : slB σ i k
    · rw [if_neg (by decide), brn_pos _ _ (by decide), ih (k + 1) f (m + 0) (by omega) (by omega) (by omega) (by omega)]
      have e : m + 0 + cnt (fun t => slB σ i t) r (k + 1) = m + cnt (fun t => slB σ i t) (r + 1) k := by
        show _ = m + ((if slB σ i k then 1 else 0) + cnt (fun t => slB σ i t) r (k + 1))
        rw [hb, if_neg (by decide)]
        omega
      rw [e]
    · rw [if_pos rfl, brn_neg _ _ (by decide), ih (k + 1) f (m + 1) (by omega) (by omega) (by omega) (by omega)]
      have e : m + 1 + cnt (fun t => slB σ i t) r (k + 1) = m + cnt (fun t => slB σ i t) (r + 1) k := by
        show _ = m + ((if slB σ i k then 1 else 0) + cnt (fun t => slB σ i t) r (k + 1))
        rw [hb, if_pos rfl]
        omega
      rw [e]
theorem sl_house (h : WF b σ) (T : TR σ (xT x)) (r130 : Int32 → Int32 → Int32 → Int32 → Int32 → Int32 → Int32 → Option Int32) (x1 x2 x3 x4 : Int32) (P R : Int) {i : Nat} (hi : (i : Int) < σ 2) : L_L_slept_142 x r130 25 x1 x2 x3 x4 (I P) (I R) (I i) (0 : Int32) (0 : Int32) = r130 x1 x2 x3 x4 (I (P + σ (81 + 5 * i))) (I (R + σ (80 + 5 * i))) (I ((i + 1 : Nat) : Int)) := by
  have hn := h.n
  have hh := h.hour
  have e := sl_142 h T r130 x1 x2 x3 x4 (I P) (I R) hi 24 0 25 0 (by omega) (by omega) (by omega) (by omega)
  rw [Int.zero_add, hoursN h hi] at e
  refine Eq.trans e ?_
  rw [L_L_slept_142, brn_pos _ _ (by decide), l_of4 h T hi, bnd_some, l_of3 h T hi, bnd_some, l_of7 h T hi, bnd_some, brn_pos _ _ rfl, l_of6 h T hi, bnd_some, l_acc0 h T, bnd_some, grd_pos _ rfl]
  show bnd (F_L_sleeps (I i) (I (σ 0)) x) _ = _
  rw [l_sleeps h T hi hh.1 hh.2, bnd_some]
  unfold J_L_slept_240
  rw [I_add, I_add, kk_I]
  cases hb : slB σ i (σ 0)
  · rw [if_neg (by decide), brn_pos _ _ (by decide), brn_pos _ _ (by decide), l_of8 h T hi, bnd_some, brn_pos _ _ (by decide)]
  · rw [if_pos rfl, brn_neg _ _ (by decide), brn_pos _ _ (by decide), l_of8 h T hi, bnd_some, brn_pos _ _ (by decide)]
theorem sl_130 (h : WF b σ) (T : TR σ (xT x)) (x2 x3 x4 : Int32) : ∀ (r k f : Nat) (P R : Int), (k : Int) + r = σ 2 → r < f →
    L_L_slept_130 x f (I (σ 2)) x2 x3 x4 (I P) (I R) (I k) = L_L_slept_130 x 1 (I (σ 2)) x2 x3 x4 (I (P + sumI (fun i => σ (81 + 5 * i)) r k)) (I (R + sumI (fun i => σ (80 + 5 * i)) r k)) (I (σ 2)) := by
  have hn := h.n
  intro r
  induction r with
  | zero =>
    intro k f P R hk hf
    obtain ⟨f, rfl⟩ : ∃ g, f = g + 1 := ⟨f - 1, by omega⟩
    rw [show P + sumI (fun i => σ (81 + 5 * i)) 0 k = P from Int.add_zero P, show R + sumI (fun i => σ (80 + 5 * i)) 0 k = R from Int.add_zero R, show (k : Int) = σ 2 by omega, L_L_slept_130, L_L_slept_130, brn_pos _ _ (Int32.le_refl _), brn_pos _ _ (Int32.le_refl _)]
  | succ r ih =>
    intro k f P R hk hf
    obtain ⟨f, rfl⟩ : ∃ g, f = g + 1 := ⟨f - 1, by omega⟩
    rw [L_L_slept_130, brn_neg _ _ (by rw [I_le (by omega) (by omega) (by omega) (by omega)]; omega), sl_house h T _ _ _ _ _ P R (i := k) (by omega), ih (k + 1) f _ _ (by omega) (by omega)]
    rw [show P + σ (81 + 5 * k) + sumI (fun i => σ (81 + 5 * i)) r (k + 1) = P + sumI (fun i => σ (81 + 5 * i)) (r + 1) k by show _ = P + (σ (81 + 5 * k) + sumI (fun i => σ (81 + 5 * i)) r (k + 1)); omega,
      show R + σ (80 + 5 * k) + sumI (fun i => σ (80 + 5 * i)) r (k + 1) = R + sumI (fun i => σ (80 + 5 * i)) (r + 1) k by show _ = R + (σ (80 + 5 * k) + sumI (fun i => σ (80 + 5 * i)) r (k + 1)); omega]
theorem sl_390 (h : WF b σ) (T : TR σ (xT x)) : J_L_slept_390 x (I (σ 2)) = some 1 := by
  have hh := h.hour
  unfold J_L_slept_390
  have e1 : F_L_asleep (24 : Int32) (1 : Int32) x = some (I (-12)) := by
    rw [show (24 : Int32) = I 24 from rfl, show (1 : Int32) = I 1 from rfl, l_asleep h T (by omega) (by omega)]
    rfl
  have e2 : F_L_rings (4 : Int32) x = some (I (-12)) := by
    rw [show (4 : Int32) = I 4 from rfl, l_rings h T (by omega)]
    rfl
  rw [e1, bnd_some, brn_pos _ _ (by decide), show (9 : Int32) = I 9 from rfl, l_ofN h T (by omega), bnd_some, brn_pos _ _ (by decide), e2, bnd_some, brn_pos _ _ (by decide), l_acc0 h T, bnd_some, grd_pos _ rfl, brn_neg _ _ (by show ¬ 24 ≤ I (σ 0); rw [lit_24, I_le (by omega) (by omega) (by omega) (by omega)]; omega)]
theorem sl_324 (h : WF b σ) (T : TR σ (xT x)) (hD : DI σ) (hb : b < 1000000) : J_L_slept_324 x (I (σ 2)) (I (σ 12)) (I (σ 5 + σ 6)) (I (σ 5 + σ 6)) = some 1 := by
  have hs := h.sums
  have s9 := hs.2.2.2.2.1 3 (by omega)
  have s12 : 0 ≤ σ 12 ∧ σ 12 ≤ b := s9
  have h7 := hD.2.2.1
  unfold J_L_slept_324
  rw [l_acc7 h T, bnd_some, grd_pos _ rfl, l_acc8 h T, bnd_some, grd_pos _ rfl, brn_pos _ _ (by show I (σ 5 + σ 6) = I (σ 5) + I (σ 6); rw [I_add]), brn_pos _ _ rfl, show F_L_rings (3 : Int32) x = some (I (σ 12)) from l_rings1 h T (k := 3) (by omega), bnd_some, brn_pos _ _ rfl, l_acc9 h T, bnd_some, grd_pos _ rfl, brn_neg _ _ (by show ¬ I (σ 12) < I (σ 7); rw [I_lt (by omega) (by omega) (by omega) (by omega)]; omega)]
  by_cases e : σ 5 + σ 6 = 0
  · rw [brn_pos _ _ (by rw [e]; rfl)]
    exact sl_390 h T
  · obtain ⟨g1, g2⟩ := v_share h T (by omega) (show 0 < σ 5 + σ 6 by omega)
    rw [brn_neg _ _ (by rw [lit_0, I_eq (by omega) (by omega) (by omega) (by omega)]; exact e), g1, bnd_some, grd_pos _ rfl, grd_pos _ g2]
    show brn (Op.cmpValue (FP.fcmp (FP.fdiv (FP.i2f (I (σ 12))) (FP.i2f (I (σ 5 + σ 6)))) (FP.fdiv (FP.i2f (I (σ 12))) (FP.i2f (I (σ 5 + σ 6))))) .l = 0) _ _ = _
    rw [fc_self g2, brn_pos _ _ (by decide)]
    exact sl_390 h T
theorem sl_303 (h : WF b σ) (T : TR σ (xT x)) (hD : DI σ) (hb : b < 1000000) (t : Int32) : J_L_slept_303 x t t (I (σ 2)) (I (sumI (slN σ) (σ 2).toNat 0)) (I (σ 12)) (I (σ 5 + σ 6)) (I (σ 5 + σ 6)) = some 1 := by
  have hn := h.n
  unfold J_L_slept_303
  rw [brn_pos _ _ rfl]
  by_cases e : σ 2 = 0
  · rw [brn_pos _ _ (by rw [e]; rfl)]
    exact sl_324 h T hD hb
  · obtain ⟨g1, g2⟩ := v_mean h T (show 0 < σ 2 by omega)
    rw [brn_neg _ _ (by rw [lit_0, I_eq (by omega) (by omega) (by omega) (by omega)]; exact e), g1, bnd_some, grd_pos _ rfl, grd_pos _ g2]
    show brn (Op.cmpValue (FP.dcmp (FP.ddiv (FP.i2d (I (sumI (slN σ) (σ 2).toNat 0))) (FP.i2d (I (σ 2)))) (FP.ddiv (FP.i2d (I (sumI (slN σ) (σ 2).toNat 0))) (FP.i2d (I (σ 2))))) .l = 0) _ _ = _
    rw [dc_self g2, brn_pos _ _ (by decide)]
    exact sl_324 h T hD hb
theorem slept_ok (h : WF b σ) (T : TR σ (xT x)) (hD : DI σ) (hb : b < 1000000) : F_L_slept x = some 1 := by
  have hn := h.n
  have hs := h.sums
  have c0 := slC_in h 0
  have cD := slC_in h (dpL σ 23 1 0)
  have dD := dpL_in σ 23 1 0 (by omega) (by omega) (by omega)
  unfold F_L_slept
  rw [l_acc2 h T, bnd_some, grd_pos _ rfl]
  show L_L_slept_16 x (24 + 1) (I (σ 2)) (-1) 0 0 0 = some 1
  rw [L_L_slept_16, brn_neg _ _ (by decide)]
  have e0 := sl_hr h T (L_L_slept_16 x 24) (k := 0) (by omega) (d2 := -1) (w := 0) (S := 0) (by omega) (by omega)
  refine Eq.trans e0 ?_
  have e1 : (if slC σ ((0 : Nat) : Int) ≤ 0 then (-1 : Int) else ((0 : Nat) : Int)) = (if slC σ 0 = 0 then -1 else 0) := by
    show (if slC σ 0 ≤ 0 then (-1 : Int) else 0) = _
    by_cases q : slC σ 0 = 0
    · rw [if_pos (by omega), if_pos q]
    · rw [if_neg (by omega), if_neg q]
  have e2 : (if slC σ ((0 : Nat) : Int) ≤ 0 then (0 : Int) else slC σ ((0 : Nat) : Int)) = slC σ 0 := by
    show (if slC σ 0 ≤ 0 then (0 : Int) else slC σ 0) = _
    by_cases q : slC σ 0 ≤ 0
    · rw [if_pos q]
      omega
    · rw [if_neg q]
  rw [e1, e2, show (0 : Int) + slC σ ((0 : Nat) : Int) = slC σ 0 from Int.zero_add _, sl_16 h T 23 1 24 0 (slC σ 0) (by omega) (by omega) (by omega) (by omega) c0.1 (by omega)]
  rw [show slC σ 0 + sumI (fun t => slC σ t) 23 1 = sumI (slN σ) (σ 2).toNat 0 from slC_sum h]
  have e3 := sl_130 h T (I (if slC σ (dpL σ 23 1 0) = 0 then -1 else dpL σ 23 1 0)) (I (slC σ (dpL σ 23 1 0))) (I (sumI (slN σ) (σ 2).toNat 0)) (σ 2).toNat 0 11 0 0 (by omega) (by omega)
  refine Eq.trans e3 ?_
  rw [Int.zero_add, Int.zero_add, show sumI (fun i => σ (81 + 5 * i)) (σ 2).toNat 0 = σ 12 from hD.2.1, show sumI (fun i => σ (80 + 5 * i)) (σ 2).toNat 0 = σ 5 + σ 6 from hD.1]
  rw [L_L_slept_130, brn_pos _ _ (Int32.le_refl _), show F_L_rings (0 : Int32) x = some (I (σ 9)) from l_rings1 h T (k := 0) (by omega), bnd_some, show F_L_rings (1 : Int32) x = some (I (σ 10)) from l_rings1 h T (k := 1) (by omega), bnd_some, show F_L_rings (2 : Int32) x = some (I (σ 11)) from l_rings1 h T (k := 2) (by omega), bnd_some, show F_L_rings (3 : Int32) x = some (I (σ 12)) from l_rings1 h T (k := 3) (by omega), bnd_some, l_deepest h T, bnd_some, I_add, I_add, I_add, show σ 9 + σ 10 + σ 11 + σ 12 = σ 5 + σ 6 from hs.2.2.2.2.2]
  unfold sp_deepest
  by_cases q : slC σ (dpL σ 23 1 0) = 0
  · rw [brn_pos _ _ (by rw [q]; rfl), if_pos q]
    exact sl_303 h T hD hb _
  · rw [brn_neg _ _ (by rw [lit_0, I_eq (by omega) (by omega) (by omega) (by omega)]; exact q), if_neg q, if_neg q]
    exact sl_303 h T hD hb _
end SLR
