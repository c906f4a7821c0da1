/-! ===== the means ===== -/
abbrev nnD (v : UInt64) : Prop := (v &&& 0x7fffffffffffffff) ≤ 0x7ff0000000000000
abbrev nnF (v : UInt32) : Prop := (v &&& 0x7fffffff) ≤ 0x7f800000
def OPKd (cs : List (Nat × Int)) (b : Int) (G : Option (Nat × UInt64 × XVal)) (H : Option (UInt64 × MVal)) : Prop := ∃ k v x' v2 y' t, (k, t) ∈ cs ∧ G = some (k, v, x') ∧ H = some (v2, y') ∧ y'.1 2 = I t ∧ (k = 0 → v = v2 ∧ nnD v) ∧ Rel (b + 300) x' y'
def OPKf (cs : List (Nat × Int)) (b : Int) (G : Option (Nat × UInt32 × XVal)) (H : Option (UInt32 × MVal)) : Prop := ∃ k v x' v2 y' t, (k, t) ∈ cs ∧ G = some (k, v, x') ∧ H = some (v2, y') ∧ y'.1 2 = I t ∧ (k = 0 → v = v2 ∧ nnF v) ∧ Rel (b + 300) x' y'
section MEA
variable {b : Int} {σ : Nat → Int} {v : TVal}
theorem sl_in (σ : Nat → Int) : ∀ r k, 0 ≤ sumI (slN σ) r k ∧ sumI (slN σ) r k ≤ 23 * r := by
  intro r
  induction r with
  | zero => intro k; exact ⟨Int.le_refl _, Int.le_refl _⟩
  | succ r ih =>
    intro k
    have a := ih (k + 1)
    have c := slN_in σ k
    rw [sumI]
    omega
theorem x_sleepSum (h : WF b σ) (T : TR σ v) : F_X2_sleepSum (I (σ 2)) (v.2 1) (v.2 2) = some (I (sumI (slN σ) (σ 2).toNat 0)) := by
  have hn := h.n
  have go : ∀ (r k f : Nat) (a : Int), (k : Int) + r = σ 2 → r < f → L_X2_sleepSum_4 (I (σ 2)) (v.2 1) (v.2 2) f (I a) (I k) = some (I (a + sumI (slN σ) r k)) := by
    intro r
    induction r with
    | zero =>
      intro k f a hk hf
      obtain ⟨f, rfl⟩ : ∃ g, f = g + 1 := ⟨f - 1, by omega⟩
      rw [L_X2_sleepSum_4, sumI, Int.add_zero, brn_pos _ _ (by rw [I_le (by omega) (by omega) (by omega) (by omega)]; omega)]
    | succ r ih =>
      intro k f a hk hf
      obtain ⟨f, rfl⟩ : ∃ g, f = g + 1 := ⟨f - 1, by omega⟩
      have kk : I (k : Int) + 1 = I ((k + 1 : Nat) : Int) := by rw [lit_1, I_add]; congr 1
      rw [L_X2_sleepSum_4, sumI, brn_neg _ _ (by rw [I_le (by omega) (by omega) (by omega) (by omega)]; omega), x_sleepAt h T.a1 T.a2 (i := k) (by omega), bnd_some, I_add, kk, ← Int.add_assoc]
      exact ih (k + 1) f (a + slN σ k) (by omega) (by omega)
  have := go (σ 2).toNat 0 100 0 (by omega) (by omega)
  rw [Int.zero_add] at this
  exact this
theorem m_meanL (h : WF b σ) (th : Int32) : ∀ (r k f : Nat) (a : Int), (k : Int) + r = σ 2 → r < f → L_X12_meanSleep_24 (J σ) f (I (σ 2)) (I a) (I k) th = brn (th ≤ 0) (grd (FP.ddiv (FP.i2d (I (a + sumI (slN σ) r k))) (FP.i2d (I (σ 2))) &&& 0x7fffffffffffffff ≤ 0x7ff0000000000000) (some (FP.ddiv (FP.i2d (I (a + sumI (slN σ) r k))) (FP.i2d (I (σ 2))), th))) (some (FP.dconst0, th)) := by
  have hn := h.n
  intro r
  induction r with
  | zero =>
    intro k f a hk hf
    obtain ⟨f, rfl⟩ : ∃ g, f = g + 1 := ⟨f - 1, by omega⟩
    rw [L_X12_meanSleep_24, sumI, Int.add_zero, brn_pos _ _ (show I (σ 2) ≤ I (k : Int) by rw [I_le (by omega) (by omega) (by omega) (by omega)]; omega)]
    rfl
  | succ r ih =>
    intro k f a hk hf
    obtain ⟨f, rfl⟩ : ∃ g, f = g + 1 := ⟨f - 1, by omega⟩
    have kk : I (k : Int) + 1 = I ((k + 1 : Nat) : Int) := by rw [lit_1, I_add]; congr 1
    have e := ih (k + 1) f (a + slN σ k) (by omega) (by omega)
    rw [Int.add_assoc] at e
    rw [L_X12_meanSleep_24, brn_neg _ _ (show ¬ I (σ 2) ≤ I (k : Int) by rw [I_le (by omega) (by omega) (by omega) (by omega)]; omega), m_sleep h (i := k) (by omega), bnd_some, I_add, kk]
    exact e
theorem op_meanSleep {x : XVal} {y : MVal} (hR : Rel b x y) : OPKd [(0, 0), (6, 1)] b (G_meanSleep x) (H_meanSleep y) := by
  obtain ⟨σ, π, n, e, ⟨hw, hs, T⟩, -⟩ := id hR
  have hn := hw.n
  have h7 : x.1 7 = I (σ 2) := T.1.2.2.2.2.2.2.1
  have c2 : (2 : Int32).toNatClampNeg = 2 := by decide
  have si := sl_in σ (σ 2).toNat 0
  obtain ⟨S, hS⟩ : ∃ S, S = sumI (slN σ) (σ 2).toNat 0 := ⟨_, rfl⟩
  rw [← hS] at si
  have mL := fun th => m_meanL hw th (σ 2).toNat 0 100 0 (by omega) (by omega)
  rw [Int.zero_add, ← hS] at mL
  by_cases e1 : σ 2 = 0
  · have hG : F_X11_meanSleep (x.1 7) (x.2.1 1) (x.2.1 2) = some (6, 0) := by
      unfold F_X11_meanSleep F_X2_size F_X11_demandDivisor
      rw [h7, bnd_some, brn_neg (c := 0 < I (σ 2)) _ _ (by rw [e1]; decide), bnd_some, brn_neg _ _ (by decide)]
    have hH : F_X12_meanSleep (y.2 0) (y.1 2) = some (FP.dconst0, 1) := by
      unfold F_X12_meanSleep J_X12_meanSleep_17
      rw [hs, grd_pos _ (by decide), brn_pos _ _ (show J σ (2 : Int32).toNatClampNeg = 0 by rw [c2, J_at, e1]; rfl), c2, J_at]
      refine Eq.trans (mL 1) ?_
      rw [brn_neg _ _ (by decide)]
    unfold G_meanSleep H_meanSleep
    rw [hG, hH, bnd_some, bnd_some]
    exact ⟨6, _, _, _, _, 1, by decide, rfl, rfl, rfl, fun q => absurd q (by decide), hR.mono (by omega)⟩
  · obtain ⟨s, rfl⟩ := Int.eq_ofNat_of_zero_le si.1
    obtain ⟨c, hc⟩ := Int.eq_ofNat_of_zero_le hn.1
    obtain ⟨N, q1, q2, q3⟩ := quo64 (a := s) (c := c) (by omega) (by omega) (by omega)
    have nn : nnD (FP.ddiv (FP.i2d (I s)) (FP.i2d (I (σ 2)))) := by
      rw [hc, q1]
      exact bits64 q2
    have hG : F_X11_meanSleep (x.1 7) (x.2.1 1) (x.2.1 2) = some (0, FP.ddiv (FP.i2d (I s)) (FP.i2d (I (σ 2)))) := by
      unfold F_X11_meanSleep F_X2_size F_X11_demandDivisor
      rw [h7, bnd_some, brn_pos (c := 0 < I (σ 2)) _ _ (by rw [lit_0, I_lt (by omega) (by omega) (by omega) (by omega)]; omega), bnd_some, brn_pos _ _ rfl, show F_X2_sleepSum (I (σ 2)) (x.2.1 1) (x.2.1 2) = some (I s) by rw [hS]; exact x_sleepSum (v := xT x) hw T, bnd_some, bnd_some, grd_pos _ nn]
    have hH : F_X12_meanSleep (y.2 0) (y.1 2) = some (FP.ddiv (FP.i2d (I s)) (FP.i2d (I (σ 2))), 0) := by
      unfold F_X12_meanSleep J_X12_meanSleep_17
      rw [hs, grd_pos _ (by decide), brn_neg _ _ (show ¬ J σ (2 : Int32).toNatClampNeg = 0 by rw [c2, J_at, lit_0, I_eq (by omega) (by omega) (by omega) (by omega)]; exact e1), c2, J_at]
      refine Eq.trans (mL 0) ?_
      rw [brn_pos _ _ (by decide), grd_pos _ nn]
    unfold G_meanSleep H_meanSleep
    rw [hG, hH, bnd_some, bnd_some]
    exact ⟨0, _, _, _, _, 0, by decide, rfl, rfl, rfl, fun _ => ⟨rfl, nn⟩, hR.mono (by omega)⟩
theorem x_rings4 (h : WF b σ) (T : TR σ v) : F_X9_countRings (v.2 11) = some (I (σ 5 + σ 6)) := by
  have hs := h.sums.2.2.2.2.2
  unfold F_X9_countRings
  rw [x_sum (N := 4) (by decide) (f := fun k => σ (9 + k)) T.a11, bnd_some]
  have e : sumI (fun k => σ (9 + k)) 4 0 = σ 5 + σ 6 := by
    show σ 9 + (σ 10 + (σ 11 + (σ 12 + 0))) = _
    omega
  rw [e]
theorem op_prankShare {x : XVal} {y : MVal} (hR : Rel b x y) (hb : b < 8000000) : OPKf [(0, 0), (6, 1)] b (G_prankShare x) (H_prankShare y) := by
  obtain ⟨σ, π, n, e, ⟨hw, hs, T⟩, -⟩ := id hR
  have sm := hw.sums
  have s9 := sm.2.2.2.2.1 3 (by omega)
  have c5 : (5 : Int32).toNatClampNeg = 5 := by decide
  have c6 : (6 : Int32).toNatClampNeg = 6 := by decide
  have c12 : (12 : Int32).toNatClampNeg = 12 := by decide
  have rg : F_X9_countRings (x.2.1 11) = some (I (σ 5 + σ 6)) := x_rings4 (v := xT x) hw T
  have a56 : J σ (5 : Int32).toNatClampNeg + J σ (6 : Int32).toNatClampNeg = I (σ 5 + σ 6) := by rw [c5, c6, J_at, J_at, I_add]
  have ck : F_X9_countKind 3 (x.2.1 11) = some (I (σ 12)) := by
    unfold F_X9_countKind
    rw [show F_X7_at 4 3 (x.2.1 11) = some (I (σ 12)) from x_at4 T.a11 (i := 3) (by omega) (by omega), bnd_some]
  by_cases e1 : σ 5 + σ 6 = 0
  · have hG : F_X11_prankShare (x.2.1 11) = some (6, 0) := by
      unfold F_X11_prankShare F_X11_demandDivisor
      rw [rg, bnd_some, brn_neg (c := 0 < I (σ 5 + σ 6)) _ _ (by rw [e1]; decide), bnd_some, brn_neg _ _ (by decide)]
    have hH : F_X12_prankShare (y.2 0) (y.1 2) = some (FP.fconst0, 1) := by
      unfold F_X12_prankShare J_X12_prankShare_25
      rw [hs, grd_pos _ (by decide), grd_pos _ (by decide), brn_pos _ _ (show J σ (5 : Int32).toNatClampNeg + J σ (6 : Int32).toNatClampNeg = 0 by rw [a56, e1]; rfl), brn_neg _ _ (show ¬ (1 : Int32) ≤ 0 by decide)]
      rfl
    unfold G_prankShare H_prankShare
    rw [hG, hH, bnd_some, bnd_some]
    exact ⟨6, _, _, _, _, 1, by decide, rfl, rfl, rfl, fun q => absurd q (by decide), hR.mono (by omega)⟩
  · obtain ⟨p, hp⟩ := Int.eq_ofNat_of_zero_le s9.1
    obtain ⟨c, hc⟩ := Int.eq_ofNat_of_zero_le (show 0 ≤ σ 5 + σ 6 by omega)
    have hp : σ 12 = p := hp
    have s12 : σ 12 ≤ b := s9.2
    obtain ⟨N, q1, q2, q3⟩ := quo32 (a := p) (c := c) (by omega) (by omega) (by omega)
    have nn : nnF (FP.fdiv (FP.i2f (I (σ 12))) (FP.i2f (I (σ 5 + σ 6)))) := by
      rw [hp, hc, q1]
      exact bits32 q2
    have hG : F_X11_prankShare (x.2.1 11) = some (0, FP.fdiv (FP.i2f (I (σ 12))) (FP.i2f (I (σ 5 + σ 6)))) := by
      unfold F_X11_prankShare F_X11_demandDivisor
      rw [rg, bnd_some, brn_pos (c := 0 < I (σ 5 + σ 6)) _ _ (by rw [lit_0, I_lt (by omega) (by omega) (by omega) (by omega)]; omega), bnd_some, brn_pos _ _ rfl, ck, bnd_some, bnd_some, grd_pos _ nn]
    have hH : F_X12_prankShare (y.2 0) (y.1 2) = some (FP.fdiv (FP.i2f (I (σ 12))) (FP.i2f (I (σ 5 + σ 6))), 0) := by
      unfold F_X12_prankShare J_X12_prankShare_25 J_X12_prankShare_50
      rw [hs, grd_pos _ (by decide), grd_pos _ (by decide), brn_neg _ _ (show ¬ J σ (5 : Int32).toNatClampNeg + J σ (6 : Int32).toNatClampNeg = 0 by rw [a56, lit_0, I_eq (by omega) (by omega) (by omega) (by omega)]; exact e1), brn_pos _ _ (show (0 : Int32) ≤ 0 by decide), grd_pos _ (by decide), c12, J_at, a56, grd_pos _ nn]
    unfold G_prankShare H_prankShare
    rw [hG, hH, bnd_some, bnd_some]
    exact ⟨0, _, _, _, _, 0, by decide, rfl, rfl, rfl, fun _ => ⟨rfl, nn⟩, hR.mono (by omega)⟩
end MEA
