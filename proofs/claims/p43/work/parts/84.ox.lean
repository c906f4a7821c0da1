/-! ===== each change, with the town after it ===== -/
def OPX (cs : List (Nat × Int)) (b : Int) (σ π : Nat → Int) (n e : Nat) (Φ : Int32 → (Nat → Int) → Prop) (Ψ : Nat → XVal → Prop) (G : Option (Nat × Int32 × XVal)) (H : Option (Int32 × MVal)) : Prop := ∃ k v x' v2 y' t σ' π' n' e', (k, t) ∈ cs ∧ G = some (k, v, x') ∧ H = some (v2, y') ∧ y'.1 2 = I t ∧ (k = 0 → v = v2) ∧ St (b + 300) σ' π' n' e' x' y' ∧ ((k ≠ 0 ∧ σ' = σ ∧ π' = π ∧ n' = n ∧ e' = e ∧ Ψ k x') ∨ (k = 0 ∧ π' = pushP n σ π ∧ n' = (if n = 8 then 8 else n + 1) ∧ e' = (e + 1) % 8 ∧ Nn v ∧ Φ v σ'))
section RP
variable {b : Int} {σ : Nat → Int} {v : TVal}
theorem ring_loopP {i : Nat} {x y : Int} (h3 : 0 ≤ x) (h4 : x ≤ 9) (h5 : 0 ≤ y) (h6 : y ≤ 9) (v : TVal) (z : Int32) (P : Nat → (Nat → Int) → Prop) (ps : ∀ (ρ : Nat → Int) (j : Nat), P j ρ → (j : Int) < ρ 2 → ecB ρ i j x y = false → P (j + 1) ρ) (pt : ∀ (ρ : Nat → Int) (j : Nat) (k : Int), P j ρ → (j : Int) < ρ 2 → ecB ρ i j x y = true → 0 ≤ k → k ≤ 3 → P (j + 1) (U (hearS ρ j k) 6 (ρ 6 + 1))) : ∀ (r k f : Nat) (ρ : Nat → Int) (b : Int) (i3 : Int32) (w3 w4 w11 : Nat → Int32), WF b ρ → b + r < 1000000 → (i : Int) < ρ 2 → (k : Int) + r = ρ 2 → r < f → TR ρ (tvMk (v.1 0) (v.1 1) (v.1 2) (v.1 3) i3 (v.1 5) (v.1 6) (v.1 7) (v.1 8) (v.2 0) (v.2 1) (v.2 2) w3 w4 (v.2 5) (v.2 6) (v.2 7) (v.2 8) (v.2 9) (v.2 10) w11) → P k ρ →
    ∃ (τ : Nat → Int) (j3 : Int32) (u3 u4 u11 : Nat → Int32), L_X9_ringAt_50 (I i) (I x) (I y) (v.1 0) (v.1 6) (v.2 0) (v.2 1) (v.2 2) (v.1 7) (v.2 5) (v.2 6) (v.2 7) (v.1 8) f z (I k) (v.1 2) (v.1 3) i3 (v.1 5) w3 w4 (v.2 9) w11 = some (z, v.1 2, v.1 3, j3, v.1 5, u3, u4, v.2 9, u11) ∧ L_X12_doRing_119 (I i) (I x) (I y) f z (I k) 0 (J ρ) = some (z, 0, J τ) ∧ WF (b + r) τ ∧ TR τ (tvMk (v.1 0) (v.1 1) (v.1 2) (v.1 3) j3 (v.1 5) (v.1 6) (v.1 7) (v.1 8) (v.2 0) (v.2 1) (v.2 2) u3 u4 (v.2 5) (v.2 6) (v.2 7) (v.2 8) (v.2 9) (v.2 10) u11) ∧ P (k + r) τ := by
  have c2 : (2 : Int32).toNatClampNeg = 2 := by decide
  have c6 : (6 : Int32).toNatClampNeg = 6 := by decide
  intro r
  induction r with
  | zero =>
    intro k f ρ b i3 w3 w4 w11 hw hb hi hk hf T hP
    obtain ⟨f, rfl⟩ : ∃ g, f = g + 1 := ⟨f - 1, by omega⟩
    have hn := hw.n
    have t6 : v.1 6 = I (ρ 2) := T.1.2.2.2.2.2.2.1
    refine ⟨ρ, i3, w3, w4, w11, ?_, ?_, hw.mono (by omega), T, hP⟩
    · rw [L_X9_ringAt_50]
      unfold F_X2_size
      rw [t6, bnd_some, brn_pos _ _ (by rw [I_le (by omega) (by omega) (by omega) (by omega)]; omega)]
    · rw [L_X12_doRing_119, grd_pos _ (by decide), c2, J_at, brn_pos _ _ (by rw [I_le (by omega) (by omega) (by omega) (by omega)]; omega)]
  | succ r ih =>
    intro k f ρ b i3 w3 w4 w11 hw hb hi hk hf T hP
    obtain ⟨f, rfl⟩ : ∃ g, f = g + 1 := ⟨f - 1, by omega⟩
    have hn := hw.n
    have hki : (k : Int) < ρ 2 := by omega
    have t0 : v.1 0 = I (ρ 0) := T.1.1
    have t4 : i3 = I (ρ 6) := T.1.2.2.2.2.1
    have t6 : v.1 6 = I (ρ 2) := T.1.2.2.2.2.2.2.1
    have t7 : v.1 7 = I (ρ 3) := T.1.2.2.2.2.2.2.2.1
    have ka := x_heardAt hw (TR.a0 T) (TR.a5 T) (TR.a6 T) (TR.a7 T) hi hki h3 h4 h5 h6
    have kb := m_echoes hw hi hki h3 h4 h5 h6
    have ks := x_shorts hw (TR.a0 T) hi hki h3 h4
    have kt := m_shortsAt hw hi hki h3 h4
    have sb := shA_in hw hi hki h3
    have kk : I (k : Int) + 1 = I ((k + 1 : Nat) : Int) := by rw [lit_1, I_add]; congr 1
    cases hc : ecB ρ i k x y
    · rw [hc, bI_f] at ka kb
      obtain ⟨τ, j3, u3, u4, u11, q1, q2, q3, q4, q5⟩ := ih (k + 1) f ρ b i3 w3 w4 w11 hw (by omega) hi (by omega) (by omega) T (ps ρ k hP hki hc)
      refine ⟨τ, j3, u3, u4, u11, ?_, ?_, q3.mono (by omega), q4, (by rw [show k + (r + 1) = k + 1 + r by omega]; exact q5)⟩
      · rw [L_X9_ringAt_50]
        unfold F_X2_size
        rw [bnd_some, brn_neg _ _ (by rw [t6, I_le (by omega) (by omega) (by omega) (by omega)]; omega), kk]
        rw [show F_X9_isHeardAt (I i) (I k) (I x) (I y) (v.2 0) (v.1 7) (v.2 5) (v.2 6) (v.2 7) = some (I 0) by rw [t7]; exact ka, bnd_some, brn_pos _ _ (by decide)]
        exact q1
      · rw [L_X12_doRing_119, grd_pos _ (by decide), c2, J_at, brn_neg _ _ (by rw [I_le (by omega) (by omega) (by omega) (by omega)]; omega), kb, bnd_some, brn_pos _ _ (by decide), kk]
        exact q2
    · rw [hc, bI_t] at ka kb
      have hpos : 0 < shA ρ i k x + y := by
        unfold ecB at hc
        rw [Bool.and_eq_true] at hc
        exact of_decide_eq_true hc.2
      have kh := x_hears hw T hki sb.1 (by omega) h5 h6 hpos
      rw [← t0] at kh
      have kg := m_hears hw hki sb.1 (by omega) h5 h6 hpos
      have kr := kd_in (σ := ρ) (i := k) (h := ρ 0) sb.1 h5 hpos
      obtain ⟨w1, w2⟩ := ring_step (c := 6) hw T hki kr (Or.inr rfl) rfl (by omega)
      have u2 : U (hearS ρ k (kd ρ k (ρ 0) (shA ρ i k x) y)) 6 (ρ 6 + 1) 2 = ρ 2 := by
        unfold hearS
        rw [U_ne _ _ (by omega), U_ne _ _ (by omega), U_ne _ _ (by omega), U_ne _ _ (by omega)]
      have u6 : hearS ρ k (kd ρ k (ρ 0) (shA ρ i k x) y) 6 = ρ 6 := by
        unfold hearS
        rw [U_ne _ _ (by omega), U_ne _ _ (by omega), U_ne _ _ (by omega)]
      rw [if_neg (show ¬ (6 : Nat) = 5 by omega), if_pos rfl] at w2
      obtain ⟨τ, j3, u3, u4, u11, q1, q2, q3, q4, q5⟩ := ih (k + 1) f _ (b + 1) (I (ρ 6 + 1)) _ _ _ w1 (by omega) (by rw [u2]; exact hi) (by rw [u2]; omega) (by omega) w2 (pt ρ k _ hP hki hc kr.1 kr.2)
      refine ⟨τ, j3, u3, u4, u11, ?_, ?_, q3.mono (by omega), q4, (by rw [show k + (r + 1) = k + 1 + r by omega]; exact q5)⟩
      · rw [L_X9_ringAt_50]
        unfold F_X2_size
        rw [bnd_some, brn_neg _ _ (by rw [t6, I_le (by omega) (by omega) (by omega) (by omega)]; omega), kk]
        rw [show F_X9_isHeardAt (I i) (I k) (I x) (I y) (v.2 0) (v.1 7) (v.2 5) (v.2 6) (v.2 7) = some (I 1) by rw [t7]; exact ka, bnd_some, brn_neg _ _ (by decide)]
        rw [show F_X9_shortsLeft (I i) (I k) (I x) (v.2 0) = _ from ks, bnd_some, show F_X9_hearAt (I k) (I (shA ρ i k x)) (I y) (v.1 0) (v.2 1) (v.2 2) w3 w4 w11 = _ from kh, bnd_some]
        rw [show i3 + 1 = I (ρ 6 + 1) by rw [t4, lit_1, I_add]]
        exact q1
      · rw [L_X12_doRing_119, grd_pos _ (by decide), c2, J_at, brn_neg _ _ (by rw [I_le (by omega) (by omega) (by omega) (by omega)]; omega), kb, bnd_some, brn_neg _ _ (by decide), kt, bnd_some, kg, bnd_some, grd_pos _ (by decide), grd_pos _ (by decide), c6, kk]
        dsimp only
        rw [J_at, u6, lit_1, I_add, J_upd]
        exact q2
theorem d_ringP (h : WF b σ) (T : TR σ v) {i : Nat} (hi : (i : Int) < σ 2) {x y : Int} (h3 : 0 ≤ x) (h4 : x ≤ 9) (h5 : 0 ≤ y) (h6 : y ≤ 9) (h7 : 0 < x + y) (hb0 : 0 ≤ b) (hb : b < 900000) (P : Nat → (Nat → Int) → Prop) (ps : ∀ (ρ : Nat → Int) (j : Nat), P j ρ → (j : Int) < ρ 2 → ecB ρ i j x y = false → P (j + 1) ρ) (pt : ∀ (ρ : Nat → Int) (j : Nat) (k : Int), P j ρ → (j : Int) < ρ 2 → ecB ρ i j x y = true → 0 ≤ k → k ≤ 3 → P (j + 1) (U (hearS ρ j k) 6 (ρ 6 + 1))) (p0 : ∀ k : Int, 0 ≤ k → k ≤ 3 → k ≠ 3 → P 0 (U (hearS σ i k) 5 (σ 5 + 1))) (p1 : ∀ ρ : Nat → Int, ρ = U (hearS σ i 3) 5 (σ 5 + 1) → P 0 (rsS (σ 4).toNat 0 (U (U ρ 7 (ρ 7 + 1)) 8 ((i : Int) + 1)))) :
    ∃ (τ : Nat → Int) (z : Int) (j2 j3 j4 j5 : Int32) (u3 u4 u9 u11 : Nat → Int32), (0 ≤ z ∧ z ≤ 3) ∧ F_X9_ringAt (I i) (I x) (I y) (v.1 0) (v.1 6) (v.2 0) (v.2 1) (v.2 2) (v.1 7) (v.2 5) (v.2 6) (v.2 7) (v.1 8) (v.1 2) (v.1 3) (v.1 4) (v.1 5) (v.2 3) (v.2 4) (v.2 9) (v.2 11) = some (I z, j2, j3, j4, j5, u3, u4, u9, u11) ∧ F_X12_doRing (I i) (I x) (I y) 0 (J σ) = some (I z, 0, J τ) ∧ WF (b + 12) τ ∧ TR τ (tvMk (v.1 0) (v.1 1) j2 j3 j4 j5 (v.1 6) (v.1 7) (v.1 8) (v.2 0) (v.2 1) (v.2 2) u3 u4 (v.2 5) (v.2 6) (v.2 7) (v.2 8) u9 (v.2 10) u11) ∧ P (0 + (σ 2).toNat) τ := by
  have hn := h.n
  have hq := h.q
  have c5 : (5 : Int32).toNatClampNeg = 5 := by decide
  have c7 : (7 : Int32).toNatClampNeg = 7 := by decide
  have c8 : (8 : Int32).toNatClampNeg = 8 := by decide
  have kh := x_hears h T hi h3 h4 h5 h6 h7
  have kg := m_hears h hi h3 h4 h5 h6 h7
  have kr := kd_in (σ := σ) (i := i) (h := σ 0) h3 h5 h7
  obtain ⟨k, hk⟩ : ∃ k, k = kd σ i (σ 0) x y := ⟨_, rfl⟩
  rw [← hk] at kh kg kr
  obtain ⟨w1, w2⟩ := ring_step (c := 5) h T hi kr (Or.inl rfl) rfl (by omega)
  rw [if_pos rfl, if_neg (show ¬ (5 : Nat) = 6 by omega)] at w2
  have u5 : hearS σ i k 5 = σ 5 := by
    unfold hearS
    rw [U_ne _ _ (by omega), U_ne _ _ (by omega), U_ne _ _ (by omega)]
  obtain ⟨ρ, hρ⟩ : ∃ ρ, ρ = U (hearS σ i k) 5 (σ 5 + 1) := ⟨_, rfl⟩
  have ρ2 : ρ 2 = σ 2 := by
    rw [hρ]
    unfold hearS
    rw [U_ne _ _ (by omega), U_ne _ _ (by omega), U_ne _ _ (by omega), U_ne _ _ (by omega)]
  have ρ4 : ρ 4 = σ 4 := by
    rw [hρ]
    unfold hearS
    rw [U_ne _ _ (by omega), U_ne _ _ (by omega), U_ne _ _ (by omega), U_ne _ _ (by omega)]
  have ρ7 : ρ 7 = σ 7 := by
    rw [hρ]
    unfold hearS
    rw [U_ne _ _ (by omega), U_ne _ _ (by omega), U_ne _ _ (by omega), U_ne _ _ (by omega)]
  have t3 : v.1 3 + 1 = I (σ 5 + 1) := by rw [T.1.2.2.2.1, lit_1, I_add]
  have t5 : v.1 5 + 1 = I (σ 7 + 1) := by rw [T.1.2.2.2.2.2.1, lit_1, I_add]
  have t8 : v.1 8 = I (σ 4) := T.1.2.2.2.2.2.2.2.2
  have kh2 := kh
  rw [← T.1.1] at kh2
  rw [← hρ] at w1 w2
  unfold F_X9_ringAt J_X9_ringAt_47 F_X12_doRing J_X12_doRing_116 F_X5_forgetTold
  rw [kh2, bnd_some, m_isHouse_p h (by omega) (by omega), bnd_some, brn_neg _ _ (show ¬ I 1 = 0 by decide), m_tone_p (by omega) (by omega) ⟨⟨h3, h4⟩, ⟨h5, h6⟩, h7⟩, bnd_some, brn_neg _ _ (show ¬ I 1 = 0 by decide), kg, bnd_some, grd_pos _ (by decide), grd_pos _ (by decide), c5, t3]
  dsimp only
  rw [J_at, u5]
  by_cases e : k = 3
  · rw [brn_pos _ _ (show I k = 3 by rw [e]; rfl), brn_pos _ _ (show I k = 3 by rw [e]; rfl)]
    obtain ⟨r9, s1, s2⟩ := x_reset hq.2 (σ 4).toNat 0 100 (v.2 9) (by omega) (by omega)
    obtain ⟨w5, w6⟩ := prank_step (p := i) (r9 := r9) w1 w2 (by omega) (by omega) (fun i => by rw [s2 i, ρ4]; rfl)
    obtain ⟨τ, j3, u3, u4, u11, q1, q2, q3, q4, q5⟩ := ring_loopP (i := i) h3 h4 h5 h6 (tvMk (v.1 0) (v.1 1) (I i) (I (σ 5 + 1)) (v.1 4) (I (ρ 7 + 1)) (v.1 6) (v.1 7) (v.1 8) (v.2 0) (v.2 1) (v.2 2) (v.2 3) (v.2 4) (v.2 5) (v.2 6) (v.2 7) (v.2 8) r9 (v.2 10) (v.2 11)) (I k) P ps pt (σ 2).toNat 0 100 _ _ _ _ _ _ w5 (by omega) (by rw [rsS_out _ _ _ _ (fun j a b => by omega), U_ne _ _ (by omega), U_ne _ _ (by omega), ρ2]; exact hi) (by rw [rsS_out _ _ _ _ (fun j a b => by omega), U_ne _ _ (by omega), U_ne _ _ (by omega), ρ2]; omega) (by omega) w6 (by have := p1 ρ (by rw [hρ, e]); rw [ρ4]; exact this)
    refine ⟨τ, k, _, _, _, _, u3, u4, r9, u11, kr, ?_, ?_, q3.mono (by omega), q4, q5⟩
    · rw [t8, show L_X5_forgetTold_2 (I (σ 4)) 100 0 (v.2 9) = _ from s1, bnd_some, t5, ← t8, ← ρ7]
      exact q1
    · have e1 : I (i : Int) + 1 = I (i + 1) := by rw [lit_1, I_add]
      have e7 : U (hearS σ i k) 5 (σ 5 + 1) 7 = σ 7 := by rw [← hρ]; exact ρ7
      rw [grd_pos _ (by decide), grd_pos _ (by decide), grd_pos _ (by decide), c7, c8, e1, lit_1, I_add, J_upd, J_at, e7, I_add, J_upd, J_upd, ← hρ]
      have mr := m_reset (I i) (I x) (I y) (I k) 0 (σ 4).toNat 0 100 (U (U ρ 7 (ρ 7 + 1)) 8 (i + 1)) (by rw [U_ne _ _ (by omega), U_ne _ _ (by omega), ρ4]; omega) (by rw [U_ne _ _ (by omega), U_ne _ _ (by omega), ρ4]; omega) (by omega)
      rw [← ρ7]
      refine Eq.trans mr ?_
      unfold J_X12_doRing_116
      rw [← ρ4]
      exact q2
  · have ne : ¬ I k = 3 := by rw [lit_3, I_eq (by omega) (by omega) (by omega) (by omega)]; exact e
    rw [brn_neg _ _ ne, brn_neg _ _ ne]
    obtain ⟨τ, j3, u3, u4, u11, q1, q2, q3, q4, q5⟩ := ring_loopP (i := i) h3 h4 h5 h6 (tvMk (v.1 0) (v.1 1) (v.1 2) (I (σ 5 + 1)) (v.1 4) (v.1 5) (v.1 6) (v.1 7) (v.1 8) (v.2 0) (v.2 1) (v.2 2) (v.2 3) (v.2 4) (v.2 5) (v.2 6) (v.2 7) (v.2 8) (v.2 9) (v.2 10) (v.2 11)) (I k) P ps pt (σ 2).toNat 0 100 _ _ _ _ _ _ w1 (by omega) (by rw [ρ2]; exact hi) (by rw [ρ2]; omega) (by omega) w2 (by rw [hρ]; exact p0 k kr.1 kr.2 e)
    refine ⟨τ, k, _, _, _, _, u3, u4, _, u11, kr, q1, ?_, q3.mono (by omega), q4, q5⟩
    rw [lit_1, I_add, J_upd, ← hρ]
    exact q2
end RP
section OXS
variable {b : Int} {x : XVal} {y : MVal} {σ π : Nat → Int} {n e : Nat}
theorem ox_house (hR : St b σ π n e x y) (hb : 0 ≤ b) {a f g : Int} (ha : InR a) (hf : InR f) (hg : InR g) : OPX [(0, 0), (2, 1), (3, 2)] b σ π n e (fun v s => s = houseS σ a f g ∧ v = I (σ 2) ∧ (0 ≤ a ∧ a ≤ 63) ∧ (0 ≤ f ∧ f ≤ 23) ∧ (0 ≤ g ∧ g ≤ 23) ∧ blkB σ a = false ∧ hOn σ a = -1 ∧ σ 2 < 10) (fun k x2 => (0 ≤ a ∧ a ≤ 63) → (0 ≤ f ∧ f ≤ 23) → (0 ≤ g ∧ g ≤ 23) → σ 2 < 10 → k = 3 ∧ (x2.1 30 = I 2 ∨ x2.1 30 = I 3)) (G_house (I a) (I f) (I g) x) (H_house (I a) (I f) (I g) y) := by
  obtain ⟨⟨hw, hs, T⟩, hK, ⟨h28, h29, hm, hp, hP⟩, hQ, hO, hS⟩ := hR
  have f2 := hw.n; have f3 := hw.m; have f4 := hw.q; have f0 := hw.hour
  obtain ⟨β, -, hβ⟩ := J_ex (y.2 1)
  have h7 : x.1 7 = I (σ 2) := T.1.2.2.2.2.2.2.1
  have T2 : TR σ (tvMk (x.1 1) (x.1 2) (x.1 3) (x.1 4) (x.1 5) (x.1 6) (I (σ 2)) (x.1 8) (x.1 9) (x.2.1 0) (x.2.1 1) (x.2.1 2) (x.2.1 3) (x.2.1 4) (x.2.1 5) (x.2.1 6) (x.2.1 7) (x.2.1 8) (x.2.1 9) (x.2.1 10) (x.2.1 11)) := by rw [← h7]; exact T
  unfold G_house H_house F_X11_house F_X12_house
  rw [hs, hβ, hm, hp, m_keep, bnd_some, h7, h28, h29]
  have hj := j_house (v := xT x) hw T ha hf hg hQ (y.1 5)
  rcases hj with ⟨c, t, rn, rd, mr, md, mi, hc, e1, e2, hq, -⟩ | ⟨e1, g1, g2, g3, g4, g5, g6⟩
  · have hcc : (c = 2 ∧ t = 1) ∨ (c = 3 ∧ t = 2) := by simpa using hc
    obtain ⟨d1, d2⟩ := x_dFi (c := c) (by omega)
    rw [show F_X9_judgeHouse (I a) (I f) (I g) (I (σ 2)) (x.2.1 0) (x.2.1 10) (x.1 30) (x.1 31) = _ from e1, e2]
    simp only [bnd_some]
    rw [d1, bnd_some, brn_neg _ _ d2, m_endsF (t := t) (by omega) (by omega), bnd_some, CP_self]
    refine ⟨c.toNat, _, _, _, _, t, σ, π, n, e, ?_, rfl, rfl, rfl, fun q => absurd q d2, ?_, Or.inl ⟨d2, rfl, rfl, rfl, rfl, (fun r1 r2 r3 r4 => by have := psi_house (v := xT x) hw T r1 r2 r3 r4 (by omega) e1; exact ⟨by omega, this.2⟩)⟩⟩
    · rcases hcc with ⟨rfl, rfl⟩ | ⟨rfl, rfl⟩ <;> decide
    · exact ⟨⟨hw.mono (by omega), rfl, T2⟩, hK.mono (by omega), ⟨rfl, rfl, rfl, rfl, hP.mono (by omega)⟩, hq, hO, hS⟩
  · obtain ⟨w1, w2⟩ := d_house_w hw hb T g1 g2 g3 g5 g6
    rw [show F_X9_judgeHouse (I a) (I f) (I g) (I (σ 2)) (x.2.1 0) (x.2.1 10) (x.1 30) (x.1 31) = _ from e1, d_house_m hw g1 g2 g3 g4 g5 g6]
    simp only [bnd_some]
    rw [x_dFi0, bnd_some, brn_pos _ _ rfl]
    obtain ⟨pool', q1, q2⟩ := x_push T2 hw hP
    rw [q1, bnd_some, d_house_x hw _ _ _ _ _ g6, bnd_some, show I 0 = (0 : Int32) from rfl, m_ends hP.1, bnd_some]
    exact ⟨0, _, _, _, _, 0, _, _, _, _, by decide, rfl, rfl, rfl, fun _ => rfl, ⟨⟨w1.mono (by omega), rfl, w2⟩, hK.mono (by omega), ⟨rfl, rfl, rfl, rfl, q2.mono (by omega)⟩, hQ, hO, hS⟩, Or.inr ⟨rfl, rfl, rfl, rfl, ⟨_, rfl, by omega, by omega⟩, ⟨rfl, rfl, g1, g2, g3, g4, g5, g6⟩⟩⟩
theorem ox_block (hR : St b σ π n e x y) (hb : 0 ≤ b) {a : Int} (ha : InR a) : OPX [(0, 0), (2, 1), (3, 2)] b σ π n e (fun v s => s = blockS σ a ∧ v = I (if blkB σ a = true then 0 else 1)) (fun _ _ => (0 ≤ a ∧ a ≤ 63) → hOn σ a = -1 → False) (G_block (I a) x) (H_block (I a) y) := by
  obtain ⟨⟨hw, hs, T⟩, hK, ⟨h28, h29, hm, hp, hP⟩, hQ, hO, hS⟩ := hR
  have f2 := hw.n; have f3 := hw.m; have f4 := hw.q; have f0 := hw.hour
  obtain ⟨β, -, hβ⟩ := J_ex (y.2 1)
  have h7 : x.1 7 = I (σ 2) := T.1.2.2.2.2.2.2.1
  have T2 : TR σ (tvMk (x.1 1) (x.1 2) (x.1 3) (x.1 4) (x.1 5) (x.1 6) (I (σ 2)) (x.1 8) (x.1 9) (x.2.1 0) (x.2.1 1) (x.2.1 2) (x.2.1 3) (x.2.1 4) (x.2.1 5) (x.2.1 6) (x.2.1 7) (x.2.1 8) (x.2.1 9) (x.2.1 10) (x.2.1 11)) := by rw [← h7]; exact T
  unfold G_block H_block F_X11_block F_X12_block
  rw [hs, hβ, hm, hp, m_keep, bnd_some, h7, h28, h29]
  have hj := j_block (v := xT x) hw T ha hQ (y.1 5)
  rcases hj with ⟨c, t, rn, rd, mr, md, mi, hc, e1, e2, hq, -⟩ | ⟨e1, g1, g5⟩
  · have hcc : (c = 2 ∧ t = 1) ∨ (c = 3 ∧ t = 2) := by simpa using hc
    obtain ⟨d1, d2⟩ := x_dFi (c := c) (by omega)
    rw [show F_X9_judgeBlock (I a) (I (σ 2)) (x.2.1 0) (x.1 30) (x.1 31) = _ from e1, e2]
    simp only [bnd_some]
    rw [d1, bnd_some, brn_neg _ _ d2, m_endsF (t := t) (by omega) (by omega), bnd_some, bnd_some, brn_neg _ _ (show ¬ (0 : Int32) = 1 by decide), CP_self]
    refine ⟨c.toNat, _, _, _, _, t, σ, π, n, e, ?_, rfl, rfl, rfl, fun q => absurd q d2, ?_, Or.inl ⟨d2, rfl, rfl, rfl, rfl, (fun r1 r2 => psi_block (v := xT x) hw T r1 r2 (by omega) e1)⟩⟩
    · rcases hcc with ⟨rfl, rfl⟩ | ⟨rfl, rfl⟩ <;> decide
    · exact ⟨⟨hw.mono (by omega), rfl, T⟩, hK.mono (by omega), ⟨rfl, rfl, rfl, rfl, hP.mono (by omega)⟩, hq, hO, hS⟩
  · obtain ⟨w1, w2⟩ := d_block_w (v := xT x) hw T g1
    have qx := d_block_x (v := xT x) hw T g1
    rw [show F_X9_judgeBlock (I a) (I (σ 2)) (x.2.1 0) (x.1 30) (x.1 31) = _ from e1, d_block_m hw g1 g5]
    simp only [bnd_some]
    rw [x_dFi0, bnd_some, brn_pos _ _ rfl]
    obtain ⟨pool', q1, q2⟩ := x_push T2 hw hP
    rw [q1, bnd_some, show F_X9_turnBlock (I a) (x.2.1 10) = _ from qx, bnd_some, show I 0 = (0 : Int32) from rfl, m_ends hP.1, bnd_some]
    have w3 : TR (blockS σ a) (tvMk (x.1 1) (x.1 2) (x.1 3) (x.1 4) (x.1 5) (x.1 6) (x.1 7) (x.1 8) (x.1 9) (x.2.1 0) (x.2.1 1) (x.2.1 2) (x.2.1 3) (x.2.1 4) (x.2.1 5) (x.2.1 6) (x.2.1 7) (x.2.1 8) (x.2.1 9) (upd (x.2.1 10) a.toNat (I (if blkB σ a = true then 0 else 1))) (x.2.1 11)) := w2
    have hz : I (if blkB σ a = true then 0 else 1) = 0 ∨ I (if blkB σ a = true then 0 else 1) = 1 := by cases blkB σ a <;> decide
    rw [grd_pos _ hz]
    rcases hz with hz | hz
    · rw [brn_neg _ _ (show ¬ I (if blkB σ a = true then 0 else 1) = 1 by rw [hz]; decide)]
      exact ⟨0, _, _, _, _, 0, _, _, _, _, by decide, rfl, rfl, rfl, fun _ => hz, ⟨⟨w1.mono (by omega), rfl, w3⟩, hK.mono (by omega), ⟨rfl, rfl, rfl, rfl, q2.mono (by omega)⟩, hQ, hO, hS⟩, Or.inr ⟨rfl, rfl, rfl, rfl, Nn_ite (blkB σ a), ⟨rfl, rfl⟩⟩⟩
    · rw [brn_pos _ _ hz]
      exact ⟨0, _, _, _, _, 0, _, _, _, _, by decide, rfl, rfl, rfl, fun _ => hz, ⟨⟨w1.mono (by omega), rfl, w3⟩, hK.mono (by omega), ⟨rfl, rfl, rfl, rfl, q2.mono (by omega)⟩, hQ, hO, hS⟩, Or.inr ⟨rfl, rfl, rfl, rfl, Nn_ite (blkB σ a), ⟨rfl, rfl⟩⟩⟩
theorem ox_post (hR : St b σ π n e x y) (hb : 0 ≤ b) {a : Int} (ha : InR a) : OPX [(0, 0), (2, 1), (3, 2)] b σ π n e (fun v s => s = postS σ a ∧ v = I (σ 4) ∧ (0 ≤ a ∧ a ≤ 63) ∧ blkB σ a = false ∧ pOn σ a = -1 ∧ σ 4 < 4) (fun k x2 => (0 ≤ a ∧ a ≤ 63) → σ 4 < 4 → k = 3 ∧ (x2.1 30 = I 2 ∨ x2.1 30 = I 7)) (G_post (I a) x) (H_post (I a) y) := by
  obtain ⟨⟨hw, hs, T⟩, hK, ⟨h28, h29, hm, hp, hP⟩, hQ, hO, hS⟩ := hR
  have f2 := hw.n; have f3 := hw.m; have f4 := hw.q; have f0 := hw.hour
  obtain ⟨β, -, hβ⟩ := J_ex (y.2 1)
  have h7 : x.1 9 = I (σ 4) := T.1.2.2.2.2.2.2.2.2
  have T2 : TR σ (tvMk (x.1 1) (x.1 2) (x.1 3) (x.1 4) (x.1 5) (x.1 6) (x.1 7) (x.1 8) (I (σ 4)) (x.2.1 0) (x.2.1 1) (x.2.1 2) (x.2.1 3) (x.2.1 4) (x.2.1 5) (x.2.1 6) (x.2.1 7) (x.2.1 8) (x.2.1 9) (x.2.1 10) (x.2.1 11)) := by rw [← h7]; exact T
  unfold G_post H_post F_X11_post F_X12_post
  rw [hs, hβ, hm, hp, m_keep, bnd_some, h7, h28, h29]
  have hj := j_post (v := xT x) hw T ha hQ (y.1 5)
  rcases hj with ⟨c, t, rn, rd, mr, md, mi, hc, e1, e2, hq, -⟩ | ⟨e1, g1, g4, g5, g6⟩
  · have hcc : (c = 2 ∧ t = 1) ∨ (c = 3 ∧ t = 2) := by simpa using hc
    obtain ⟨d1, d2⟩ := x_dFi (c := c) (by omega)
    rw [show F_X9_judgePost (I a) (I (σ 4)) (x.2.1 8) (x.2.1 10) (x.1 30) (x.1 31) = _ from e1, e2]
    simp only [bnd_some]
    rw [d1, bnd_some, brn_neg _ _ d2, m_endsF (t := t) (by omega) (by omega), bnd_some, CP_self]
    refine ⟨c.toNat, _, _, _, _, t, σ, π, n, e, ?_, rfl, rfl, rfl, fun q => absurd q d2, ?_, Or.inl ⟨d2, rfl, rfl, rfl, rfl, (fun r1 r2 => by have := psi_post (v := xT x) hw T r1 r2 (by omega) e1; exact ⟨by omega, this.2⟩)⟩⟩
    · rcases hcc with ⟨rfl, rfl⟩ | ⟨rfl, rfl⟩ <;> decide
    · exact ⟨⟨hw.mono (by omega), rfl, T2⟩, hK.mono (by omega), ⟨rfl, rfl, rfl, rfl, hP.mono (by omega)⟩, hq, hO, hS⟩
  · obtain ⟨w1, w2⟩ := d_post_w (v := xT x) hw T g1 g5 g6
    rw [show F_X9_judgePost (I a) (I (σ 4)) (x.2.1 8) (x.2.1 10) (x.1 30) (x.1 31) = _ from e1, d_post_m hw g1 g4 g5 g6]
    simp only [bnd_some]
    rw [x_dFi0, bnd_some, brn_pos _ _ rfl]
    obtain ⟨pool', q1, q2⟩ := x_push T2 hw hP
    rw [q1, bnd_some, d_post_x hw _ _ g6, bnd_some, show I 0 = (0 : Int32) from rfl, m_ends hP.1, bnd_some]
    exact ⟨0, _, _, _, _, 0, _, _, _, _, by decide, rfl, rfl, rfl, fun _ => rfl, ⟨⟨w1.mono (by omega), rfl, w2⟩, hK.mono (by omega), ⟨rfl, rfl, rfl, rfl, q2.mono (by omega)⟩, hQ, hO, hS⟩, Or.inr ⟨rfl, rfl, rfl, rfl, ⟨_, rfl, by omega, by omega⟩, ⟨rfl, rfl, g1, g4, g5, g6⟩⟩⟩
theorem ox_pass (hR : St b σ π n e x y) (hb : 0 ≤ b) (hb2 : b < 1000000) {a : Int} (ha : InR a) : OPX [(0, 0), (2, 1)] b σ π n e (fun _ s => s = passS σ a) (fun _ _ => ¬ (1 ≤ a ∧ a ≤ 99)) (G_pass (I a) x) (H_pass (I a) y) := by
  obtain ⟨⟨hw, hs, T⟩, hK, ⟨h28, h29, hm, hp, hP⟩, hQ, hO, hS⟩ := hR
  have f2 := hw.n; have f3 := hw.m; have f4 := hw.q; have f0 := hw.hour
  obtain ⟨β, -, hβ⟩ := J_ex (y.2 1)
  have h1 : x.1 1 = I (σ 0) := T.1.1
  have h2 : x.1 2 = I (σ 1) := T.1.2.1
  have T2 : TR σ (tvMk (I (σ 0)) (I (σ 1)) (x.1 3) (x.1 4) (x.1 5) (x.1 6) (x.1 7) (x.1 8) (x.1 9) (x.2.1 0) (x.2.1 1) (x.2.1 2) (x.2.1 3) (x.2.1 4) (x.2.1 5) (x.2.1 6) (x.2.1 7) (x.2.1 8) (x.2.1 9) (x.2.1 10) (x.2.1 11)) := by rw [← h1, ← h2]; exact T
  unfold G_pass H_pass F_X11_pass F_X12_pass F_X9_judgeHours
  rw [hs, hβ, hm, hp, m_keep, bnd_some, h1, h2, h28, h29]
  by_cases e1 : 1 ≤ a ∧ a ≤ 99
  · have k1 : F_X11_isWithin (I a) 1 99 = some (I 1) := by
      rw [lit_1, lit_99]
      exact I_in ha (by omega) (by omega) e1
    obtain ⟨w1, w2⟩ := d_pass_w (v := xT x) hw hb hb2 T e1
    obtain ⟨pool', q1, q2⟩ := x_push T2 hw hP
    rw [k1, bnd_some, brn_neg _ _ (by decide), bnd_some, show (0 : Int32) = I 0 from rfl, x_dFi0, bnd_some, brn_pos _ _ rfl, q1, bnd_some, d_pass_x hw hb2 e1, bnd_some, show I 0 = (0 : Int32) from rfl, d_pass_m hw hb2 e1]
    simp only [bnd_some]
    rw [show I 0 = (0 : Int32) from rfl, m_ends hP.1, bnd_some]
    exact ⟨0, _, _, _, _, 0, _, _, _, _, by decide, rfl, rfl, rfl, fun _ => rfl, ⟨⟨w1.mono (by omega), rfl, w2⟩, hK.mono (by omega), ⟨rfl, rfl, rfl, rfl, q2.mono (by omega)⟩, hQ, hO, hS⟩, Or.inr ⟨rfl, rfl, rfl, rfl, ⟨_, rfl, by omega, by omega⟩, rfl⟩⟩
  · have k1 : F_X11_isWithin (I a) 1 99 = some (I 0) := by
      rw [lit_1, lit_99]
      exact I_out ha (by omega) (by omega) e1
    have q3 : F_X12_doPass (I a) 0 (J σ) = some (0, I 1, J σ) := by
      have k2 : F_X12_in (I a) 1 99 = some (I 0) := by
        rw [lit_1, lit_99]
        exact I_mout ha (by omega) (by omega) e1
      unfold F_X12_doPass
      rw [k2, bnd_some, brn_pos _ _ (by decide)]
      rfl
    rw [k1, bnd_some, brn_pos _ _ (by decide), bnd_some, show (2 : Int32) = I 2 from rfl, x_dFi2, bnd_some, brn_neg _ _ (by decide), q3, bnd_some, bnd_some, m_endsF (t := 1) (by omega) (by omega), bnd_some, CP_self]
    exact ⟨2, _, _, _, _, 1, σ, π, n, e, by decide, rfl, rfl, rfl, fun q => absurd q (by decide), ⟨⟨hw.mono (by omega), rfl, T2⟩, hK.mono (by omega), ⟨rfl, rfl, rfl, rfl, hP.mono (by omega)⟩, hQ, hO, hS⟩, Or.inl ⟨by decide, rfl, rfl, rfl, rfl, e1⟩⟩
theorem ox_hall (hR : St b σ π n e x y) (hb : 0 ≤ b) {a f g : Int} (ha : InR a) (hf : InR f) (hg : InR g) : OPX [(0, 0), (2, 1), (3, 2)] b σ π n e (fun v s => s = hallS σ a f g ∧ v = I (σ 3) ∧ (0 ≤ a ∧ a ≤ 7) ∧ (0 ≤ f ∧ f ≤ g ∧ g ≤ 7)) (fun _ _ => (0 ≤ a ∧ a ≤ 7) → (0 ≤ f ∧ f ≤ g ∧ g ≤ 7) → σ 3 < 4 → (∀ c : Int, f ≤ c → c ≤ g → lOn σ (8 * a + c) < 0) → False) (G_hall (I a) (I f) (I g) x) (H_hall (I a) (I f) (I g) y) := by
  obtain ⟨⟨hw, hs, T⟩, hK, ⟨h28, h29, hm, hp, hP⟩, hQ, hO, hS⟩ := hR
  have f2 := hw.n; have f3 := hw.m; have f4 := hw.q; have f0 := hw.hour
  obtain ⟨β, -, hβ⟩ := J_ex (y.2 1)
  have h7 : x.1 8 = I (σ 3) := T.1.2.2.2.2.2.2.2.1
  have T2 : TR σ (tvMk (x.1 1) (x.1 2) (x.1 3) (x.1 4) (x.1 5) (x.1 6) (x.1 7) (I (σ 3)) (x.1 9) (x.2.1 0) (x.2.1 1) (x.2.1 2) (x.2.1 3) (x.2.1 4) (x.2.1 5) (x.2.1 6) (x.2.1 7) (x.2.1 8) (x.2.1 9) (x.2.1 10) (x.2.1 11)) := by rw [← h7]; exact T
  unfold G_hall H_hall F_X11_hall F_X12_hall
  rw [hs, hβ, hm, hp, m_keep, bnd_some, h7, h28, h29]
  have hj := j_hall (v := xT x) hw T ha hf hg hQ (y.1 5)
  rcases hj with ⟨c, t, rn, rd, mr, md, mi, hc, e1, e2, hq, -⟩ | ⟨e1, em, g1, g2, g5, g6⟩
  · have hcc : (c = 2 ∧ t = 1) ∨ (c = 3 ∧ t = 2) := by simpa using hc
    obtain ⟨d1, d2⟩ := x_dFi (c := c) (by omega)
    rw [show F_X9_judgeHall (I a) (I f) (I g) (I (σ 3)) (x.2.1 5) (x.2.1 6) (x.2.1 7) (x.1 30) (x.1 31) = _ from e1, e2]
    simp only [bnd_some]
    rw [d1, bnd_some, brn_neg _ _ d2, m_endsF (t := t) (by omega) (by omega), bnd_some, CP_self]
    refine ⟨c.toNat, _, _, _, _, t, σ, π, n, e, ?_, rfl, rfl, rfl, fun q => absurd q d2, ?_, Or.inl ⟨d2, rfl, rfl, rfl, rfl, (fun r1 r2 r3 r4 => by obtain ⟨k9, rfl⟩ := Int.eq_ofNat_of_zero_le r2.1; exact psi_hall (v := xT x) hw T r1 r2.2.1 r2.2.2 r3 (fun i q1 q2 => r4 i (by omega) q2) (by omega) e1)⟩⟩
    · rcases hcc with ⟨rfl, rfl⟩ | ⟨rfl, rfl⟩ <;> decide
    · exact ⟨⟨hw.mono (by omega), rfl, T2⟩, hK.mono (by omega), ⟨rfl, rfl, rfl, rfl, hP.mono (by omega)⟩, hq, hO, hS⟩
  · obtain ⟨w1, w2⟩ := d_hall_w (v := xT x) hw T g1 g2 g5 g6
    rw [show F_X9_judgeHall (I a) (I f) (I g) (I (σ 3)) (x.2.1 5) (x.2.1 6) (x.2.1 7) (x.1 30) (x.1 31) = _ from e1, em]
    simp only [bnd_some]
    rw [x_dFi0, bnd_some, brn_pos _ _ rfl]
    obtain ⟨pool', q1, q2⟩ := x_push T2 hw hP
    rw [q1, bnd_some, d_hall_x hw _ _ _ g6, bnd_some, show I 0 = (0 : Int32) from rfl, m_ends hP.1, bnd_some]
    exact ⟨0, _, _, _, _, 0, _, _, _, _, by decide, rfl, rfl, rfl, fun _ => rfl, ⟨⟨w1.mono (by omega), rfl, w2⟩, hK.mono (by omega), ⟨rfl, rfl, rfl, rfl, q2.mono (by omega)⟩, hQ, hO, hS⟩, Or.inr ⟨rfl, rfl, rfl, rfl, ⟨_, rfl, by omega, by omega⟩, ⟨rfl, rfl, g1, g2⟩⟩⟩
theorem ox_tell (hR : St b σ π n e x y) (hb : 0 ≤ b) {a t : Int} (ha : InR a) (ht : InR t) : OPX [(0, 0), (1, 1), (2, 2), (3, 3)] b σ π n e (fun v s => s = tellS σ a t ∧ (0 ≤ a ∧ a < σ 4) ∧ (0 ≤ t ∧ t ≤ 14) ∧ σ 8 ≠ 0) (fun k _ => (0 ≤ a ∧ a < σ 4) → (0 ≤ t ∧ t ≤ 14) → k = 3) (G_tell (I a) (I t) x) (H_tell (I a) (I t) y) := by
  obtain ⟨⟨hw, hs, T⟩, hK, ⟨h28, h29, hm, hp, hP⟩, hQ, hO, hS⟩ := hR
  have f2 := hw.n; have f3 := hw.m; have f4 := hw.q; have f0 := hw.hour
  obtain ⟨β, -, hβ⟩ := J_ex (y.2 1)
  have hq4 := hw.q
  have h3 : x.1 3 = I (σ 8 - 1) := T.1.2.2.1
  have h7 : x.1 9 = I (σ 4) := T.1.2.2.2.2.2.2.2.2
  have T2 : TR σ (tvMk (x.1 1) (x.1 2) (I (σ 8 - 1)) (x.1 4) (x.1 5) (x.1 6) (x.1 7) (x.1 8) (I (σ 4)) (x.2.1 0) (x.2.1 1) (x.2.1 2) (x.2.1 3) (x.2.1 4) (x.2.1 5) (x.2.1 6) (x.2.1 7) (x.2.1 8) (x.2.1 9) (x.2.1 10) (x.2.1 11)) := by rw [← h7, ← h3]; exact T
  unfold G_tell H_tell F_X11_tell F_X12_tell
  rw [hs, hβ, hm, hp, m_keep, bnd_some, h7, h3, h28, h29]
  have hj := j_tell (v := xT x) hw T ha ht hQ (y.1 5)
  rcases hj with ⟨c, u, rn, rd, mr, md, mi, hc, e1, e2, hq, -⟩ | ⟨e1, g1, g2, em⟩
  · have hcc : (c = 1 ∧ u = 1) ∨ (c = 2 ∧ u = 2) ∨ (c = 3 ∧ u = 3) := by simpa using hc
    obtain ⟨d1, d2⟩ := x_dFi (c := c) (by omega)
    rw [show F_X9_judgeTell (I a) (I t) (I (σ 8 - 1)) (I (σ 4)) (x.2.1 9) (x.2.1 11) (x.1 30) (x.1 31) = _ from e1, e2]
    simp only [bnd_some]
    rw [d1, bnd_some, brn_neg _ _ d2, m_endsF (t := u) (by omega) (by omega), bnd_some, CP_self]
    refine ⟨c.toNat, _, _, _, _, u, σ, π, n, e, ?_, rfl, rfl, rfl, fun q => absurd q d2, ?_, Or.inl ⟨d2, rfl, rfl, rfl, rfl, (fun r1 r2 => by have := psi_tell (v := xT x) hw T r1 r2 (by omega) e1; omega)⟩⟩
    · rcases hcc with ⟨rfl, rfl⟩ | ⟨rfl, rfl⟩ | ⟨rfl, rfl⟩ <;> decide
    · exact ⟨⟨hw.mono (by omega), rfl, T⟩, hK.mono (by omega), ⟨rfl, rfl, rfl, rfl, hP.mono (by omega)⟩, hq, hO, hS⟩
  · obtain ⟨p, rfl⟩ := Int.eq_ofNat_of_zero_le g1.1
    obtain ⟨w1, w2⟩ := d_tell_w (v := xT x) hw T g1.2 g2
    have kc := x_canN w1 (TR.a8 w2) (TR.a9 w2) (TR.a10 w2)
    have h4 : tellS σ p t 4 = σ 4 := by unfold tellS; exact U_ne _ _ (by omega)
    rw [h4] at kc
    rw [show F_X9_judgeTell (I p) (I t) (I (σ 8 - 1)) (I (σ 4)) (x.2.1 9) (x.2.1 11) (x.1 30) (x.1 31) = _ from e1, em]
    simp only [bnd_some]
    rw [x_dFi0, bnd_some, brn_pos _ _ rfl]
    obtain ⟨pool', q1, q2⟩ := x_push T2 hw hP
    rw [q1, bnd_some, d_tell_x g1.2 hq4.2, bnd_some, show F_X9_countFits (I (σ 4)) (x.2.1 8) (upd (x.2.1 9) p (I t)) (x.2.1 10) = _ from kc, bnd_some, show I 0 = (0 : Int32) from rfl, m_ends hP.1, bnd_some]
    exact ⟨0, _, _, _, _, 0, _, _, _, _, by decide, rfl, rfl, rfl, fun _ => rfl, ⟨⟨w1.mono (by omega), rfl, w2⟩, hK.mono (by omega), ⟨rfl, rfl, rfl, rfl, q2.mono (by omega)⟩, hQ, hO, hS⟩, Or.inr ⟨rfl, rfl, rfl, rfl, ⟨_, rfl, (canN_in _).1, by have := (canN_in (tellS σ p t)).2; omega⟩, ⟨rfl, g1, g2, psi_tell0 (v := xT x) hw T g1 g2 e1⟩⟩⟩
theorem ox_ring (hR : St b σ π n e x y) (hb : 0 ≤ b) (hb2 : b < 900000) {i : Nat} {x0 y0 : Int} (ha : InR (i : Int)) (hs1 : InR x0) (hl : InR y0) (P : Nat → (Nat → Int) → Prop) (ps : ∀ (ρ : Nat → Int) (j : Nat), P j ρ → (j : Int) < ρ 2 → ecB ρ i j x0 y0 = false → P (j + 1) ρ) (pt : ∀ (ρ : Nat → Int) (j : Nat) (k : Int), P j ρ → (j : Int) < ρ 2 → ecB ρ i j x0 y0 = true → 0 ≤ k → k ≤ 3 → P (j + 1) (U (hearS ρ j k) 6 (ρ 6 + 1))) (p0 : ∀ k : Int, 0 ≤ k → k ≤ 3 → k ≠ 3 → P 0 (U (hearS σ i k) 5 (σ 5 + 1))) (p1 : ∀ ρ : Nat → Int, ρ = U (hearS σ i 3) 5 (σ 5 + 1) → P 0 (rsS (σ 4).toNat 0 (U (U ρ 7 (ρ 7 + 1)) 8 ((i : Int) + 1)))) : OPX [(0, 0), (1, 1), (2, 2)] b σ π n e (fun _ s => P (0 + (σ 2).toNat) s) (fun _ _ => ¬ ((i : Int) < σ 2 ∧ (0 ≤ x0 ∧ x0 ≤ 9) ∧ (0 ≤ y0 ∧ y0 ≤ 9) ∧ 0 < x0 + y0)) (G_ring (I (i : Int)) (I x0) (I y0) x) (H_ring (I (i : Int)) (I x0) (I y0) y) := by
  obtain ⟨⟨hw, hs, T⟩, hK, ⟨h28, h29, hm, hp, hP⟩, hQ, hO, hS⟩ := hR
  have f2 := hw.n; have f3 := hw.m; have f4 := hw.q; have f0 := hw.hour
  obtain ⟨β, -, hβ⟩ := J_ex (y.2 1)
  have hn := hw.n
  have h7 : x.1 7 = I (σ 2) := T.1.2.2.2.2.2.2.1
  unfold G_ring H_ring F_X11_ring F_X12_ring
  rw [hs, hβ, hm, hp, m_keep, bnd_some, h28, h29]
  by_cases e1 : 0 ≤ (i : Int) ∧ (i : Int) < σ 2
  · by_cases e2 : (0 ≤ x0 ∧ x0 ≤ 9) ∧ (0 ≤ y0 ∧ y0 ≤ 9) ∧ 0 < x0 + y0
    · obtain ⟨τ, z, j2, j3, j4, j5, u3, u4, u9, u11, zr, r1, r2, w1, w2, w3⟩ := d_ringP (v := xT x) hw T e1.2 e2.1.1 e2.1.2 e2.2.1.1 e2.2.1.2 e2.2.2 hb hb2 P ps pt p0 p1
      obtain ⟨pool', q1, q2⟩ := x_push (show TR σ (tvMk (x.1 1) (x.1 2) (x.1 3) (x.1 4) (x.1 5) (x.1 6) (x.1 7) (x.1 8) (x.1 9) (x.2.1 0) (x.2.1 1) (x.2.1 2) (x.2.1 3) (x.2.1 4) (x.2.1 5) (x.2.1 6) (x.2.1 7) (x.2.1 8) (x.2.1 9) (x.2.1 10) (x.2.1 11)) from T) hw hP
      rw [show F_X9_judgeRing (I i) (I x0) (I y0) (x.1 7) = some (I 0) by rw [h7]; exact x_judge_0 ha (by omega) hs1 hl e1 e2, bnd_some, x_dFi0, bnd_some, brn_pos _ _ rfl, q1, bnd_some, show F_X9_ringAt (I i) (I x0) (I y0) (x.1 1) (x.1 7) (x.2.1 0) (x.2.1 1) (x.2.1 2) (x.1 8) (x.2.1 5) (x.2.1 6) (x.2.1 7) (x.1 9) (x.1 3) (x.1 4) (x.1 5) (x.1 6) (x.2.1 3) (x.2.1 4) (x.2.1 9) (x.2.1 11) = _ from r1, bnd_some, r2]
      simp only [bnd_some]
      rw [m_ends hP.1, bnd_some]
      exact ⟨0, _, _, _, _, 0, _, _, _, _, by decide, rfl, rfl, rfl, fun _ => rfl, ⟨⟨w1.mono (by omega), rfl, w2⟩, hK.mono (by omega), ⟨rfl, rfl, rfl, rfl, q2.mono (by omega)⟩, hQ, hO, hS⟩, Or.inr ⟨rfl, rfl, rfl, rfl, ⟨_, rfl, zr.1, by omega⟩, w3⟩⟩
    · have q3 : F_X12_doRing (I (i : Int)) (I x0) (I y0) 0 (J σ) = some (0, I 2, J σ) := by
        unfold F_X12_doRing J_X12_doRing_16 J_X12_doRing_30
        rw [m_isHouse_p hw ha e1, bnd_some, brn_neg _ _ (by decide), m_tone_n hs1 hl e2, bnd_some, brn_pos _ _ (by decide), bnd_some, brn_neg _ _ (by decide)]
        rfl
      rw [show F_X9_judgeRing (I (i : Int)) (I x0) (I y0) (x.1 7) = some (I 2) by rw [h7]; exact x_judge_2 ha (by omega) hs1 hl e1 e2, bnd_some, x_dFi2, bnd_some, brn_neg _ _ (by decide), q3, bnd_some, bnd_some, m_endsF (t := 2) (by omega) (by omega), bnd_some, CP_self]
      exact ⟨2, _, _, _, _, 2, σ, π, n, e, by decide, rfl, rfl, rfl, fun q => absurd q (by decide), ⟨⟨hw.mono (by omega), rfl, T⟩, hK.mono (by omega), ⟨rfl, rfl, rfl, rfl, hP.mono (by omega)⟩, hQ, hO, hS⟩, Or.inl ⟨by decide, rfl, rfl, rfl, rfl, (fun q => e2 q.2)⟩⟩
  · have q3 : F_X12_doRing (I (i : Int)) (I x0) (I y0) 0 (J σ) = some (0, I 1, J σ) := by
      unfold F_X12_doRing J_X12_doRing_16 J_X12_doRing_30
      rw [m_isHouse_n hw ha e1, bnd_some, brn_pos _ _ (by decide), bnd_some, brn_pos _ _ (by decide)]
      rfl
    rw [show F_X9_judgeRing (I (i : Int)) (I x0) (I y0) (x.1 7) = some (I 1) by rw [h7]; exact x_judge_1 (x := 0) (y := 0) ha (by omega) e1 _ _, bnd_some, x_dFi1, bnd_some, brn_neg _ _ (by decide), q3, bnd_some, bnd_some, m_endsF (t := 1) (by omega) (by omega), bnd_some, CP_self]
    exact ⟨1, _, _, _, _, 1, σ, π, n, e, by decide, rfl, rfl, rfl, fun q => absurd q (by decide), ⟨⟨hw.mono (by omega), rfl, T⟩, hK.mono (by omega), ⟨rfl, rfl, rfl, rfl, hP.mono (by omega)⟩, hQ, hO, hS⟩, Or.inl ⟨by decide, rfl, rfl, rfl, rfl, (fun q => e1 ⟨by omega, q.1⟩)⟩⟩
end OXS
