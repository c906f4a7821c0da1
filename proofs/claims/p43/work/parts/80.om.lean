section DRZ
variable {b : Int} {σ : Nat → Int} {v : TVal}
theorem d_ringZ (h : WF b σ) (T : TR σ v) {i : Nat} (hi : (i : Int) < σ 2) {x y : Int} (h3 : 0 ≤ x) (h4 : x ≤ 9) (h5 : 0 ≤ y) (h6 : y ≤ 9) (h7 : 0 < x + y) (hb0 : 0 ≤ b) (hb : b < 900000) :
    ∃ (τ : Nat → Int) (z : Int) (j2 j3 j4 j5 : Int32) (u3 u4 u9 u11 : Nat → Int32), (0 ≤ z ∧ z ≤ 3) ∧ F_X9_ringAt (I i) (I x) (I y) (v.1 0) (v.1 6) (v.2 0) (v.2 1) (v.2 2) (v.1 7) (v.2 5) (v.2 6) (v.2 7) (v.1 8) (v.1 2) (v.1 3) (v.1 4) (v.1 5) (v.2 3) (v.2 4) (v.2 9) (v.2 11) = some (I z, j2, j3, j4, j5, u3, u4, u9, u11) ∧ F_X12_doRing (I i) (I x) (I y) 0 (J σ) = some (I z, 0, J τ) ∧ WF (b + 12) τ ∧ TR τ (tvMk (v.1 0) (v.1 1) j2 j3 j4 j5 (v.1 6) (v.1 7) (v.1 8) (v.2 0) (v.2 1) (v.2 2) u3 u4 (v.2 5) (v.2 6) (v.2 7) (v.2 8) u9 (v.2 10) u11) := by
  have hn := h.n
  have hq := h.q
  have c5 : (5 : Int32).toNatClampNeg = 5 := by decide
  have c7 : (7 : Int32).toNatClampNeg = 7 := by decide
  have c8 : (8 : Int32).toNatClampNeg = 8 := by decide
  have kh := x_hears h T hi h3 h4 h5 h6 h7
  have kg := m_hears h hi h3 h4 h5 h6 h7
  have kr := kd_in (σ := σ) (i := i) (h := σ 0) h3 h5 h7
  obtain ⟨k, hk⟩ : ∃ k, k = kd σ i (σ 0) x y := ⟨_, rfl⟩
  rw [← hk] at kh kg kr
  obtain ⟨w1, w2⟩ := ring_step (c := 5) h T hi kr (Or.inl rfl) rfl (by omega)
  rw [if_pos rfl, if_neg (show ¬ (5 : Nat) = 6 by omega)] at w2
  have u5 : hearS σ i k 5 = σ 5 := by
    unfold hearS
    rw [U_ne _ _ (by omega), U_ne _ _ (by omega), U_ne _ _ (by omega)]
  obtain ⟨ρ, hρ⟩ : ∃ ρ, ρ = U (hearS σ i k) 5 (σ 5 + 1) := ⟨_, rfl⟩
  have ρ2 : ρ 2 = σ 2 := by
    rw [hρ]
    unfold hearS
    rw [U_ne _ _ (by omega), U_ne _ _ (by omega), U_ne _ _ (by omega), U_ne _ _ (by omega)]
  have ρ4 : ρ 4 = σ 4 := by
    rw [hρ]
    unfold hearS
    rw [U_ne _ _ (by omega), U_ne _ _ (by omega), U_ne _ _ (by omega), U_ne _ _ (by omega)]
  have ρ7 : ρ 7 = σ 7 := by
    rw [hρ]
    unfold hearS
    rw [U_ne _ _ (by omega), U_ne _ _ (by omega), U_ne _ _ (by omega), U_ne _ _ (by omega)]
  have t3 : v.1 3 + 1 = I (σ 5 + 1) := by rw [T.1.2.2.2.1, lit_1, I_add]
  have t5 : v.1 5 + 1 = I (σ 7 + 1) := by rw [T.1.2.2.2.2.2.1, lit_1, I_add]
  have t8 : v.1 8 = I (σ 4) := T.1.2.2.2.2.2.2.2.2
  have kh2 := kh
  rw [← T.1.1] at kh2
  rw [← hρ] at w1 w2
  unfold F_X9_ringAt J_X9_ringAt_47 F_X12_doRing J_X12_doRing_116 F_X5_forgetTold
  rw [kh2, bnd_some, m_isHouse_p h (by omega) (by omega), bnd_some, brn_neg _ _ (show ¬ I 1 = 0 by decide), m_tone_p (by omega) (by omega) ⟨⟨h3, h4⟩, ⟨h5, h6⟩, h7⟩, bnd_some, brn_neg _ _ (show ¬ I 1 = 0 by decide), kg, bnd_some, grd_pos _ (by decide), grd_pos _ (by decide), c5, t3]
  dsimp only
  rw [J_at, u5]
  by_cases e : k = 3
  · rw [brn_pos _ _ (show I k = 3 by rw [e]; rfl), brn_pos _ _ (show I k = 3 by rw [e]; rfl)]
    obtain ⟨r9, s1, s2⟩ := x_reset hq.2 (σ 4).toNat 0 100 (v.2 9) (by omega) (by omega)
    obtain ⟨w5, w6⟩ := prank_step (p := i) (r9 := r9) w1 w2 (by omega) (by omega) (fun i => by rw [s2 i, ρ4]; rfl)
    obtain ⟨τ, j3, u3, u4, u11, q1, q2, q3, q4⟩ := ring_loop (i := i) h3 h4 h5 h6 (tvMk (v.1 0) (v.1 1) (I i) (I (σ 5 + 1)) (v.1 4) (I (ρ 7 + 1)) (v.1 6) (v.1 7) (v.1 8) (v.2 0) (v.2 1) (v.2 2) (v.2 3) (v.2 4) (v.2 5) (v.2 6) (v.2 7) (v.2 8) r9 (v.2 10) (v.2 11)) (I k) (σ 2).toNat 0 100 _ _ _ _ _ _ w5 (by omega) (by rw [rsS_out _ _ _ _ (fun j a b => by omega), U_ne _ _ (by omega), U_ne _ _ (by omega), ρ2]; exact hi) (by rw [rsS_out _ _ _ _ (fun j a b => by omega), U_ne _ _ (by omega), U_ne _ _ (by omega), ρ2]; omega) (by omega) w6
    refine ⟨τ, k, _, _, _, _, u3, u4, r9, u11, kr, ?_, ?_, q3.mono (by omega), q4⟩
    · rw [t8, show L_X5_forgetTold_2 (I (σ 4)) 100 0 (v.2 9) = _ from s1, bnd_some, t5, ← t8, ← ρ7]
      exact q1
    · have e1 : I (i : Int) + 1 = I (i + 1) := by rw [lit_1, I_add]
      have e7 : U (hearS σ i k) 5 (σ 5 + 1) 7 = σ 7 := by rw [← hρ]; exact ρ7
      rw [grd_pos _ (by decide), grd_pos _ (by decide), grd_pos _ (by decide), c7, c8, e1, lit_1, I_add, J_upd, J_at, e7, I_add, J_upd, J_upd, ← hρ]
      have mr := m_reset (I i) (I x) (I y) (I k) 0 (σ 4).toNat 0 100 (U (U ρ 7 (ρ 7 + 1)) 8 (i + 1)) (by rw [U_ne _ _ (by omega), U_ne _ _ (by omega), ρ4]; omega) (by rw [U_ne _ _ (by omega), U_ne _ _ (by omega), ρ4]; omega) (by omega)
      rw [← ρ7]
      refine Eq.trans mr ?_
      unfold J_X12_doRing_116
      rw [← ρ4]
      exact q2
  · have ne : ¬ I k = 3 := by rw [lit_3, I_eq (by omega) (by omega) (by omega) (by omega)]; exact e
    rw [brn_neg _ _ ne, brn_neg _ _ ne]
    obtain ⟨τ, j3, u3, u4, u11, q1, q2, q3, q4⟩ := ring_loop (i := i) h3 h4 h5 h6 (tvMk (v.1 0) (v.1 1) (v.1 2) (I (σ 5 + 1)) (v.1 4) (v.1 5) (v.1 6) (v.1 7) (v.1 8) (v.2 0) (v.2 1) (v.2 2) (v.2 3) (v.2 4) (v.2 5) (v.2 6) (v.2 7) (v.2 8) (v.2 9) (v.2 10) (v.2 11)) (I k) (σ 2).toNat 0 100 _ _ _ _ _ _ w1 (by omega) (by rw [ρ2]; exact hi) (by rw [ρ2]; omega) (by omega) w2
    refine ⟨τ, k, _, _, _, _, u3, u4, _, u11, kr, q1, ?_, q3.mono (by omega), q4⟩
    rw [lit_1, I_add, J_upd, ← hρ]
    exact q2
end DRZ
/-! ===== what a change leaves: the town after it, the towns of the past ===== -/
def St (b : Int) (σ π : Nat → Int) (n e : Nat) (x : XVal) (y : MVal) : Prop := RT b σ x y ∧ RK b x y ∧ RP b n e π x y ∧ RR x y ∧ RO x y ∧ RS x y
def Nn (v : Int32) : Prop := ∃ z : Int, v = I z ∧ 0 ≤ z ∧ z < 1000
def OPM (cs : List (Nat × Int)) (b : Int) (σ π : Nat → Int) (n e : Nat) (G : Option (Nat × Int32 × XVal)) (H : Option (Int32 × MVal)) : Prop := ∃ k v x' v2 y' t σ' π' n' e', (k, t) ∈ cs ∧ G = some (k, v, x') ∧ H = some (v2, y') ∧ y'.1 2 = I t ∧ (k = 0 → v = v2) ∧ St (b + 300) σ' π' n' e' x' y' ∧ ((k ≠ 0 ∧ (∀ j, j < 147 → σ' j = σ j) ∧ π' = π ∧ n' = n ∧ e' = e) ∨ (k = 0 ∧ π' = pushP n σ π ∧ n' = (if n = 8 then 8 else n + 1) ∧ e' = (e + 1) % 8 ∧ Nn v))
theorem St.of {b : Int} {x : XVal} {y : MVal} (h : Rel b x y) : ∃ σ π n e, St b σ π n e x y := h
theorem Nn_ite (c : Bool) : Nn (I (if c = true then 0 else 1)) := by cases c <;> exact ⟨_, rfl, by decide, by decide⟩
section OMS
variable {b : Int} {x : XVal} {y : MVal} {σ π : Nat → Int} {n e : Nat}
theorem St.mono {c : Int} (h : St b σ π n e x y) (hb : b ≤ c) : St c σ π n e x y := ⟨h.1.mono hb, h.2.1.mono hb, h.2.2.1.mono hb, h.2.2.2⟩
theorem om_house (hR : St b σ π n e x y) (hb : 0 ≤ b) (p1 p2 p3 : Int32) : OPM [(0, 0), (2, 1), (3, 2)] b σ π n e (G_house p1 p2 p3 x) (H_house p1 p2 p3 y) := by
  obtain ⟨⟨hw, hs, T⟩, hK, ⟨h28, h29, hm, hp, hP⟩, hQ, hO, hS⟩ := hR
  have f2 := hw.n; have f3 := hw.m; have f4 := hw.q; have f0 := hw.hour
  obtain ⟨a, ha, rfl⟩ := I_ex p1
  obtain ⟨f, hf, rfl⟩ := I_ex p2
  obtain ⟨g, hg, rfl⟩ := I_ex p3
  obtain ⟨β, -, hβ⟩ := J_ex (y.2 1)
  have h7 : x.1 7 = I (σ 2) := T.1.2.2.2.2.2.2.1
  have T2 : TR σ (tvMk (x.1 1) (x.1 2) (x.1 3) (x.1 4) (x.1 5) (x.1 6) (I (σ 2)) (x.1 8) (x.1 9) (x.2.1 0) (x.2.1 1) (x.2.1 2) (x.2.1 3) (x.2.1 4) (x.2.1 5) (x.2.1 6) (x.2.1 7) (x.2.1 8) (x.2.1 9) (x.2.1 10) (x.2.1 11)) := by rw [← h7]; exact T
  unfold G_house H_house F_X11_house F_X12_house
  rw [hs, hβ, hm, hp, m_keep, bnd_some, h7, h28, h29]
  have hj := j_house (v := xT x) hw T ha hf hg hQ (y.1 5)
  rcases hj with ⟨c, t, rn, rd, mr, md, mi, hc, e1, e2, hq, -⟩ | ⟨e1, g1, g2, g3, g4, g5, g6⟩
  · have hcc : (c = 2 ∧ t = 1) ∨ (c = 3 ∧ t = 2) := by simpa using hc
    obtain ⟨d1, d2⟩ := x_dFi (c := c) (by omega)
    rw [show F_X9_judgeHouse (I a) (I f) (I g) (I (σ 2)) (x.2.1 0) (x.2.1 10) (x.1 30) (x.1 31) = _ from e1, e2]
    simp only [bnd_some]
    rw [d1, bnd_some, brn_neg _ _ d2, m_endsF (t := t) (by omega) (by omega), bnd_some, CP_self]
    refine ⟨c.toNat, _, _, _, _, t, σ, π, n, e, ?_, rfl, rfl, rfl, fun q => absurd q d2, ?_, Or.inl ⟨d2, fun _ _ => rfl, rfl, rfl, rfl⟩⟩
    · rcases hcc with ⟨rfl, rfl⟩ | ⟨rfl, rfl⟩ <;> decide
    · exact ⟨⟨hw.mono (by omega), rfl, T2⟩, hK.mono (by omega), ⟨rfl, rfl, rfl, rfl, hP.mono (by omega)⟩, hq, hO, hS⟩
  · obtain ⟨w1, w2⟩ := d_house_w hw hb T g1 g2 g3 g5 g6
    rw [show F_X9_judgeHouse (I a) (I f) (I g) (I (σ 2)) (x.2.1 0) (x.2.1 10) (x.1 30) (x.1 31) = _ from e1, d_house_m hw g1 g2 g3 g4 g5 g6]
    simp only [bnd_some]
    rw [x_dFi0, bnd_some, brn_pos _ _ rfl]
    obtain ⟨pool', q1, q2⟩ := x_push T2 hw hP
    rw [q1, bnd_some, d_house_x hw _ _ _ _ _ g6, bnd_some, show I 0 = (0 : Int32) from rfl, m_ends hP.1, bnd_some]
    exact ⟨0, _, _, _, _, 0, _, _, _, _, by decide, rfl, rfl, rfl, fun _ => rfl, ⟨⟨w1.mono (by omega), rfl, w2⟩, hK.mono (by omega), ⟨rfl, rfl, rfl, rfl, q2.mono (by omega)⟩, hQ, hO, hS⟩, Or.inr ⟨rfl, rfl, rfl, rfl, ⟨_, rfl, by omega, by omega⟩⟩⟩
theorem om_goAway (hR : St b σ π n e x y) (hb : 0 ≤ b) (p1 : Int32) : OPM [(0, 0), (1, 1)] b σ π n e (G_goAway p1 x) (H_goAway p1 y) := by
  obtain ⟨⟨hw, hs, T⟩, hK, ⟨h28, h29, hm, hp, hP⟩, hQ, hO, hS⟩ := hR
  have f2 := hw.n; have f3 := hw.m; have f4 := hw.q; have f0 := hw.hour
  obtain ⟨a, ha, rfl⟩ := I_ex p1
  obtain ⟨β, -, hβ⟩ := J_ex (y.2 1)
  have hn := hw.n
  have h7 : x.1 7 = I (σ 2) := T.1.2.2.2.2.2.2.1
  have T2 : TR σ (tvMk (x.1 1) (x.1 2) (x.1 3) (x.1 4) (x.1 5) (x.1 6) (I (σ 2)) (x.1 8) (x.1 9) (x.2.1 0) (x.2.1 1) (x.2.1 2) (x.2.1 3) (x.2.1 4) (x.2.1 5) (x.2.1 6) (x.2.1 7) (x.2.1 8) (x.2.1 9) (x.2.1 10) (x.2.1 11)) := by rw [← h7]; exact T
  unfold G_goAway H_goAway F_X11_goAway F_X12_goAway
  rw [hs, hβ, hm, hp, m_keep, bnd_some, h7, h28, h29]
  by_cases e1 : 0 ≤ a ∧ a < σ 2
  · obtain ⟨p, rfl⟩ := Int.eq_ofNat_of_zero_le e1.1
    obtain ⟨s0, s1, s2, s3, s4, q3, g0, g1, g2, g3, g4⟩ := d_away_x (p := p) e1.2 hn.2 (x.2.1 0) (x.2.1 1) (x.2.1 2) (x.2.1 3) (x.2.1 4)
    obtain ⟨w1, w2⟩ := d_away_w (v := xT x) hw T e1.2 g0 g1 g2 g3 g4
    obtain ⟨pool', q1, q2⟩ := x_push T2 hw hP
    rw [x_has_p ha (by omega) e1, bnd_some, x_dLt, bnd_some, brn_pos _ _ rfl, q1, bnd_some, q3, bnd_some, d_away_m hw e1.2]
    simp only [bnd_some]
    rw [show I 0 = (0 : Int32) from rfl, m_ends hP.1, bnd_some]
    exact ⟨0, _, _, _, _, 0, _, _, _, _, by decide, rfl, rfl, rfl, fun _ => rfl, ⟨⟨w1.mono (by omega), rfl, w2⟩, hK.mono (by omega), ⟨rfl, rfl, rfl, rfl, q2.mono (by omega)⟩, hQ, hO, hS⟩, Or.inr ⟨rfl, rfl, rfl, rfl, ⟨_, rfl, by omega, by omega⟩⟩⟩
  · have q3 : F_X12_doGoAway (I a) 0 (J σ) = some (0, I 1, J σ) := by
      unfold F_X12_doGoAway
      rw [m_isHouse_n hw ha e1, bnd_some, brn_pos _ _ (by decide)]
      rfl
    rw [x_has_n ha (by omega) e1, bnd_some, x_dLf, bnd_some, brn_neg _ _ (by decide), q3, bnd_some, bnd_some, m_endsF (t := 1) (by omega) (by omega), bnd_some, CP_self]
    exact ⟨1, _, _, _, _, 1, σ, π, n, e, by decide, rfl, rfl, rfl, fun q => absurd q (by decide), ⟨⟨hw.mono (by omega), rfl, T2⟩, hK.mono (by omega), ⟨rfl, rfl, rfl, rfl, hP.mono (by omega)⟩, hQ, hO, hS⟩, Or.inl ⟨by decide, fun _ _ => rfl, rfl, rfl, rfl⟩⟩
theorem om_dropHall (hR : St b σ π n e x y) (hb : 0 ≤ b) (p1 : Int32) : OPM [(0, 0), (1, 1)] b σ π n e (G_dropHall p1 x) (H_dropHall p1 y) := by
  obtain ⟨⟨hw, hs, T⟩, hK, ⟨h28, h29, hm, hp, hP⟩, hQ, hO, hS⟩ := hR
  have f2 := hw.n; have f3 := hw.m; have f4 := hw.q; have f0 := hw.hour
  obtain ⟨a, ha, rfl⟩ := I_ex p1
  obtain ⟨β, -, hβ⟩ := J_ex (y.2 1)
  have hn := hw.m
  have h7 : x.1 8 = I (σ 3) := T.1.2.2.2.2.2.2.2.1
  have T2 : TR σ (tvMk (x.1 1) (x.1 2) (x.1 3) (x.1 4) (x.1 5) (x.1 6) (x.1 7) (I (σ 3)) (x.1 9) (x.2.1 0) (x.2.1 1) (x.2.1 2) (x.2.1 3) (x.2.1 4) (x.2.1 5) (x.2.1 6) (x.2.1 7) (x.2.1 8) (x.2.1 9) (x.2.1 10) (x.2.1 11)) := by rw [← h7]; exact T
  unfold G_dropHall H_dropHall F_X11_dropHall F_X12_dropHall
  rw [hs, hβ, hm, hp, m_keep, bnd_some, h7, h28, h29]
  by_cases e1 : 0 ≤ a ∧ a < σ 3
  · obtain ⟨p, rfl⟩ := Int.eq_ofNat_of_zero_le e1.1
    obtain ⟨s5, s6, s7, q3, g5, g6, g7⟩ := d_unhall_x (p := p) e1.2 hn.2 (x.2.1 5) (x.2.1 6) (x.2.1 7)
    obtain ⟨w1, w2⟩ := d_unhall_w (v := xT x) hw T e1.2 g5 g6 g7
    obtain ⟨pool', q1, q2⟩ := x_push T2 hw hP
    rw [x1_has_p ha (by omega) e1, bnd_some, x_dLt, bnd_some, brn_pos _ _ rfl, q1, bnd_some, q3, bnd_some, d_unhall_m hw e1.2]
    simp only [bnd_some]
    rw [show I 0 = (0 : Int32) from rfl, m_ends hP.1, bnd_some]
    exact ⟨0, _, _, _, _, 0, _, _, _, _, by decide, rfl, rfl, rfl, fun _ => rfl, ⟨⟨w1.mono (by omega), rfl, w2⟩, hK.mono (by omega), ⟨rfl, rfl, rfl, rfl, q2.mono (by omega)⟩, hQ, hO, hS⟩, Or.inr ⟨rfl, rfl, rfl, rfl, ⟨_, rfl, by omega, by omega⟩⟩⟩
  · have q3 : F_X12_doDropHall (I a) 0 (J σ) = some (0, I 1, J σ) := by
      unfold F_X12_doDropHall
      rw [show F_X12_in (I a) 0 (J σ (Int32.toNatClampNeg 3) - 1) = some (I 0) by (rw [lit_3, lit_0, lit_1, I_cl (by omega) (by omega), J_at, tn_0.2.2.2.1, I_sub]; exact I_mout (by omega) (by omega) (by omega) (by omega)), grd_pos _ (by decide), bnd_some, brn_pos _ _ (by decide)]
      rfl
    rw [x1_has_n ha (by omega) e1, bnd_some, x_dLf, bnd_some, brn_neg _ _ (by decide), q3, bnd_some, bnd_some, m_endsF (t := 1) (by omega) (by omega), bnd_some, CP_self]
    exact ⟨1, _, _, _, _, 1, σ, π, n, e, by decide, rfl, rfl, rfl, fun q => absurd q (by decide), ⟨⟨hw.mono (by omega), rfl, T2⟩, hK.mono (by omega), ⟨rfl, rfl, rfl, rfl, hP.mono (by omega)⟩, hQ, hO, hS⟩, Or.inl ⟨by decide, fun _ _ => rfl, rfl, rfl, rfl⟩⟩
theorem om_dropPost (hR : St b σ π n e x y) (hb : 0 ≤ b) (p1 : Int32) : OPM [(0, 0), (1, 1)] b σ π n e (G_dropPost p1 x) (H_dropPost p1 y) := by
  obtain ⟨⟨hw, hs, T⟩, hK, ⟨h28, h29, hm, hp, hP⟩, hQ, hO, hS⟩ := hR
  have f2 := hw.n; have f3 := hw.m; have f4 := hw.q; have f0 := hw.hour
  obtain ⟨a, ha, rfl⟩ := I_ex p1
  obtain ⟨β, -, hβ⟩ := J_ex (y.2 1)
  have hn := hw.q
  have h7 : x.1 9 = I (σ 4) := T.1.2.2.2.2.2.2.2.2
  have T2 : TR σ (tvMk (x.1 1) (x.1 2) (x.1 3) (x.1 4) (x.1 5) (x.1 6) (x.1 7) (x.1 8) (I (σ 4)) (x.2.1 0) (x.2.1 1) (x.2.1 2) (x.2.1 3) (x.2.1 4) (x.2.1 5) (x.2.1 6) (x.2.1 7) (x.2.1 8) (x.2.1 9) (x.2.1 10) (x.2.1 11)) := by rw [← h7]; exact T
  unfold G_dropPost H_dropPost F_X11_dropPost F_X12_dropPost
  rw [hs, hβ, hm, hp, m_keep, bnd_some, h7, h28, h29]
  by_cases e1 : 0 ≤ a ∧ a < σ 4
  · obtain ⟨p, rfl⟩ := Int.eq_ofNat_of_zero_le e1.1
    obtain ⟨s8, s9, q3, g8, g9⟩ := d_unpost_x (p := p) e1.2 hn.2 (x.2.1 8) (x.2.1 9)
    obtain ⟨w1, w2⟩ := d_unpost_w (v := xT x) hw T e1.2 g8 g9
    obtain ⟨pool', q1, q2⟩ := x_push T2 hw hP
    rw [x5_has_p ha (by omega) e1, bnd_some, x_dLt, bnd_some, brn_pos _ _ rfl, q1, bnd_some, q3, bnd_some, d_unpost_m hw e1.2]
    simp only [bnd_some]
    rw [show I 0 = (0 : Int32) from rfl, m_ends hP.1, bnd_some]
    exact ⟨0, _, _, _, _, 0, _, _, _, _, by decide, rfl, rfl, rfl, fun _ => rfl, ⟨⟨w1.mono (by omega), rfl, w2⟩, hK.mono (by omega), ⟨rfl, rfl, rfl, rfl, q2.mono (by omega)⟩, hQ, hO, hS⟩, Or.inr ⟨rfl, rfl, rfl, rfl, ⟨_, rfl, by omega, by omega⟩⟩⟩
  · have q3 : F_X12_doDropPost (I a) 0 (J σ) = some (0, I 1, J σ) := by
      unfold F_X12_doDropPost
      rw [m_isPost_n hw ha e1, bnd_some, brn_pos _ _ (by decide)]
      rfl
    rw [x5_has_n ha (by omega) e1, bnd_some, x_dLf, bnd_some, brn_neg _ _ (by decide), q3, bnd_some, bnd_some, m_endsF (t := 1) (by omega) (by omega), bnd_some, CP_self]
    exact ⟨1, _, _, _, _, 1, σ, π, n, e, by decide, rfl, rfl, rfl, fun q => absurd q (by decide), ⟨⟨hw.mono (by omega), rfl, T2⟩, hK.mono (by omega), ⟨rfl, rfl, rfl, rfl, hP.mono (by omega)⟩, hQ, hO, hS⟩, Or.inl ⟨by decide, fun _ _ => rfl, rfl, rfl, rfl⟩⟩
theorem om_block (hR : St b σ π n e x y) (hb : 0 ≤ b) (p1 : Int32) : OPM [(0, 0), (2, 1), (3, 2)] b σ π n e (G_block p1 x) (H_block p1 y) := by
  obtain ⟨⟨hw, hs, T⟩, hK, ⟨h28, h29, hm, hp, hP⟩, hQ, hO, hS⟩ := hR
  have f2 := hw.n; have f3 := hw.m; have f4 := hw.q; have f0 := hw.hour
  obtain ⟨a, ha, rfl⟩ := I_ex p1
  obtain ⟨β, -, hβ⟩ := J_ex (y.2 1)
  have h7 : x.1 7 = I (σ 2) := T.1.2.2.2.2.2.2.1
  have T2 : TR σ (tvMk (x.1 1) (x.1 2) (x.1 3) (x.1 4) (x.1 5) (x.1 6) (I (σ 2)) (x.1 8) (x.1 9) (x.2.1 0) (x.2.1 1) (x.2.1 2) (x.2.1 3) (x.2.1 4) (x.2.1 5) (x.2.1 6) (x.2.1 7) (x.2.1 8) (x.2.1 9) (x.2.1 10) (x.2.1 11)) := by rw [← h7]; exact T
  unfold G_block H_block F_X11_block F_X12_block
  rw [hs, hβ, hm, hp, m_keep, bnd_some, h7, h28, h29]
  have hj := j_block (v := xT x) hw T ha hQ (y.1 5)
  rcases hj with ⟨c, t, rn, rd, mr, md, mi, hc, e1, e2, hq, -⟩ | ⟨e1, g1, g5⟩
  · have hcc : (c = 2 ∧ t = 1) ∨ (c = 3 ∧ t = 2) := by simpa using hc
    obtain ⟨d1, d2⟩ := x_dFi (c := c) (by omega)
    rw [show F_X9_judgeBlock (I a) (I (σ 2)) (x.2.1 0) (x.1 30) (x.1 31) = _ from e1, e2]
    simp only [bnd_some]
    rw [d1, bnd_some, brn_neg _ _ d2, m_endsF (t := t) (by omega) (by omega), bnd_some, bnd_some, brn_neg _ _ (show ¬ (0 : Int32) = 1 by decide), CP_self]
    refine ⟨c.toNat, _, _, _, _, t, σ, π, n, e, ?_, rfl, rfl, rfl, fun q => absurd q d2, ?_, Or.inl ⟨d2, fun _ _ => rfl, rfl, rfl, rfl⟩⟩
    · rcases hcc with ⟨rfl, rfl⟩ | ⟨rfl, rfl⟩ <;> decide
    · exact ⟨⟨hw.mono (by omega), rfl, T⟩, hK.mono (by omega), ⟨rfl, rfl, rfl, rfl, hP.mono (by omega)⟩, hq, hO, hS⟩
  · obtain ⟨w1, w2⟩ := d_block_w (v := xT x) hw T g1
    have qx := d_block_x (v := xT x) hw T g1
    rw [show F_X9_judgeBlock (I a) (I (σ 2)) (x.2.1 0) (x.1 30) (x.1 31) = _ from e1, d_block_m hw g1 g5]
    simp only [bnd_some]
    rw [x_dFi0, bnd_some, brn_pos _ _ rfl]
    obtain ⟨pool', q1, q2⟩ := x_push T2 hw hP
    rw [q1, bnd_some, show F_X9_turnBlock (I a) (x.2.1 10) = _ from qx, bnd_some, show I 0 = (0 : Int32) from rfl, m_ends hP.1, bnd_some]
    have w3 : TR (blockS σ a) (tvMk (x.1 1) (x.1 2) (x.1 3) (x.1 4) (x.1 5) (x.1 6) (x.1 7) (x.1 8) (x.1 9) (x.2.1 0) (x.2.1 1) (x.2.1 2) (x.2.1 3) (x.2.1 4) (x.2.1 5) (x.2.1 6) (x.2.1 7) (x.2.1 8) (x.2.1 9) (upd (x.2.1 10) a.toNat (I (if blkB σ a = true then 0 else 1))) (x.2.1 11)) := w2
    have hz : I (if blkB σ a = true then 0 else 1) = 0 ∨ I (if blkB σ a = true then 0 else 1) = 1 := by cases blkB σ a <;> decide
    rw [grd_pos _ hz]
    rcases hz with hz | hz
    · rw [brn_neg _ _ (show ¬ I (if blkB σ a = true then 0 else 1) = 1 by rw [hz]; decide)]
      exact ⟨0, _, _, _, _, 0, _, _, _, _, by decide, rfl, rfl, rfl, fun _ => hz, ⟨⟨w1.mono (by omega), rfl, w3⟩, hK.mono (by omega), ⟨rfl, rfl, rfl, rfl, q2.mono (by omega)⟩, hQ, hO, hS⟩, Or.inr ⟨rfl, rfl, rfl, rfl, Nn_ite (blkB σ a)⟩⟩
    · rw [brn_pos _ _ hz]
      exact ⟨0, _, _, _, _, 0, _, _, _, _, by decide, rfl, rfl, rfl, fun _ => hz, ⟨⟨w1.mono (by omega), rfl, w3⟩, hK.mono (by omega), ⟨rfl, rfl, rfl, rfl, q2.mono (by omega)⟩, hQ, hO, hS⟩, Or.inr ⟨rfl, rfl, rfl, rfl, Nn_ite (blkB σ a)⟩⟩
theorem om_post (hR : St b σ π n e x y) (hb : 0 ≤ b) (p1 : Int32) : OPM [(0, 0), (2, 1), (3, 2)] b σ π n e (G_post p1 x) (H_post p1 y) := by
  obtain ⟨⟨hw, hs, T⟩, hK, ⟨h28, h29, hm, hp, hP⟩, hQ, hO, hS⟩ := hR
  have f2 := hw.n; have f3 := hw.m; have f4 := hw.q; have f0 := hw.hour
  obtain ⟨a, ha, rfl⟩ := I_ex p1
  obtain ⟨β, -, hβ⟩ := J_ex (y.2 1)
  have h7 : x.1 9 = I (σ 4) := T.1.2.2.2.2.2.2.2.2
  have T2 : TR σ (tvMk (x.1 1) (x.1 2) (x.1 3) (x.1 4) (x.1 5) (x.1 6) (x.1 7) (x.1 8) (I (σ 4)) (x.2.1 0) (x.2.1 1) (x.2.1 2) (x.2.1 3) (x.2.1 4) (x.2.1 5) (x.2.1 6) (x.2.1 7) (x.2.1 8) (x.2.1 9) (x.2.1 10) (x.2.1 11)) := by rw [← h7]; exact T
  unfold G_post H_post F_X11_post F_X12_post
  rw [hs, hβ, hm, hp, m_keep, bnd_some, h7, h28, h29]
  have hj := j_post (v := xT x) hw T ha hQ (y.1 5)
  rcases hj with ⟨c, t, rn, rd, mr, md, mi, hc, e1, e2, hq, -⟩ | ⟨e1, g1, g4, g5, g6⟩
  · have hcc : (c = 2 ∧ t = 1) ∨ (c = 3 ∧ t = 2) := by simpa using hc
    obtain ⟨d1, d2⟩ := x_dFi (c := c) (by omega)
    rw [show F_X9_judgePost (I a) (I (σ 4)) (x.2.1 8) (x.2.1 10) (x.1 30) (x.1 31) = _ from e1, e2]
    simp only [bnd_some]
    rw [d1, bnd_some, brn_neg _ _ d2, m_endsF (t := t) (by omega) (by omega), bnd_some, CP_self]
    refine ⟨c.toNat, _, _, _, _, t, σ, π, n, e, ?_, rfl, rfl, rfl, fun q => absurd q d2, ?_, Or.inl ⟨d2, fun _ _ => rfl, rfl, rfl, rfl⟩⟩
    · rcases hcc with ⟨rfl, rfl⟩ | ⟨rfl, rfl⟩ <;> decide
    · exact ⟨⟨hw.mono (by omega), rfl, T2⟩, hK.mono (by omega), ⟨rfl, rfl, rfl, rfl, hP.mono (by omega)⟩, hq, hO, hS⟩
  · obtain ⟨w1, w2⟩ := d_post_w (v := xT x) hw T g1 g5 g6
    rw [show F_X9_judgePost (I a) (I (σ 4)) (x.2.1 8) (x.2.1 10) (x.1 30) (x.1 31) = _ from e1, d_post_m hw g1 g4 g5 g6]
    simp only [bnd_some]
    rw [x_dFi0, bnd_some, brn_pos _ _ rfl]
    obtain ⟨pool', q1, q2⟩ := x_push T2 hw hP
    rw [q1, bnd_some, d_post_x hw _ _ g6, bnd_some, show I 0 = (0 : Int32) from rfl, m_ends hP.1, bnd_some]
    exact ⟨0, _, _, _, _, 0, _, _, _, _, by decide, rfl, rfl, rfl, fun _ => rfl, ⟨⟨w1.mono (by omega), rfl, w2⟩, hK.mono (by omega), ⟨rfl, rfl, rfl, rfl, q2.mono (by omega)⟩, hQ, hO, hS⟩, Or.inr ⟨rfl, rfl, rfl, rfl, ⟨_, rfl, by omega, by omega⟩⟩⟩
theorem om_pass (hR : St b σ π n e x y) (hb : 0 ≤ b) (hb2 : b < 1000000) (p1 : Int32) : OPM [(0, 0), (2, 1)] b σ π n e (G_pass p1 x) (H_pass p1 y) := by
  obtain ⟨⟨hw, hs, T⟩, hK, ⟨h28, h29, hm, hp, hP⟩, hQ, hO, hS⟩ := hR
  have f2 := hw.n; have f3 := hw.m; have f4 := hw.q; have f0 := hw.hour
  obtain ⟨a, ha, rfl⟩ := I_ex p1
  obtain ⟨β, -, hβ⟩ := J_ex (y.2 1)
  have h1 : x.1 1 = I (σ 0) := T.1.1
  have h2 : x.1 2 = I (σ 1) := T.1.2.1
  have T2 : TR σ (tvMk (I (σ 0)) (I (σ 1)) (x.1 3) (x.1 4) (x.1 5) (x.1 6) (x.1 7) (x.1 8) (x.1 9) (x.2.1 0) (x.2.1 1) (x.2.1 2) (x.2.1 3) (x.2.1 4) (x.2.1 5) (x.2.1 6) (x.2.1 7) (x.2.1 8) (x.2.1 9) (x.2.1 10) (x.2.1 11)) := by rw [← h1, ← h2]; exact T
  unfold G_pass H_pass F_X11_pass F_X12_pass F_X9_judgeHours
  rw [hs, hβ, hm, hp, m_keep, bnd_some, h1, h2, h28, h29]
  by_cases e1 : 1 ≤ a ∧ a ≤ 99
  · have k1 : F_X11_isWithin (I a) 1 99 = some (I 1) := by
      rw [lit_1, lit_99]
      exact I_in ha (by omega) (by omega) e1
    obtain ⟨w1, w2⟩ := d_pass_w (v := xT x) hw hb hb2 T e1
    obtain ⟨pool', q1, q2⟩ := x_push T2 hw hP
    rw [k1, bnd_some, brn_neg _ _ (by decide), bnd_some, show (0 : Int32) = I 0 from rfl, x_dFi0, bnd_some, brn_pos _ _ rfl, q1, bnd_some, d_pass_x hw hb2 e1, bnd_some, show I 0 = (0 : Int32) from rfl, d_pass_m hw hb2 e1]
    simp only [bnd_some]
    rw [show I 0 = (0 : Int32) from rfl, m_ends hP.1, bnd_some]
    exact ⟨0, _, _, _, _, 0, _, _, _, _, by decide, rfl, rfl, rfl, fun _ => rfl, ⟨⟨w1.mono (by omega), rfl, w2⟩, hK.mono (by omega), ⟨rfl, rfl, rfl, rfl, q2.mono (by omega)⟩, hQ, hO, hS⟩, Or.inr ⟨rfl, rfl, rfl, rfl, ⟨_, rfl, by omega, by omega⟩⟩⟩
  · have k1 : F_X11_isWithin (I a) 1 99 = some (I 0) := by
      rw [lit_1, lit_99]
      exact I_out ha (by omega) (by omega) e1
    have q3 : F_X12_doPass (I a) 0 (J σ) = some (0, I 1, J σ) := by
      have k2 : F_X12_in (I a) 1 99 = some (I 0) := by
        rw [lit_1, lit_99]
        exact I_mout ha (by omega) (by omega) e1
      unfold F_X12_doPass
      rw [k2, bnd_some, brn_pos _ _ (by decide)]
      rfl
    rw [k1, bnd_some, brn_pos _ _ (by decide), bnd_some, show (2 : Int32) = I 2 from rfl, x_dFi2, bnd_some, brn_neg _ _ (by decide), q3, bnd_some, bnd_some, m_endsF (t := 1) (by omega) (by omega), bnd_some, CP_self]
    exact ⟨2, _, _, _, _, 1, σ, π, n, e, by decide, rfl, rfl, rfl, fun q => absurd q (by decide), ⟨⟨hw.mono (by omega), rfl, T2⟩, hK.mono (by omega), ⟨rfl, rfl, rfl, rfl, hP.mono (by omega)⟩, hQ, hO, hS⟩, Or.inl ⟨by decide, fun _ _ => rfl, rfl, rfl, rfl⟩⟩
theorem om_hall (hR : St b σ π n e x y) (hb : 0 ≤ b) (p1 p2 p3 : Int32) : OPM [(0, 0), (2, 1), (3, 2)] b σ π n e (G_hall p1 p2 p3 x) (H_hall p1 p2 p3 y) := by
  obtain ⟨⟨hw, hs, T⟩, hK, ⟨h28, h29, hm, hp, hP⟩, hQ, hO, hS⟩ := hR
  have f2 := hw.n; have f3 := hw.m; have f4 := hw.q; have f0 := hw.hour
  obtain ⟨a, ha, rfl⟩ := I_ex p1
  obtain ⟨f, hf, rfl⟩ := I_ex p2
  obtain ⟨g, hg, rfl⟩ := I_ex p3
  obtain ⟨β, -, hβ⟩ := J_ex (y.2 1)
  have h7 : x.1 8 = I (σ 3) := T.1.2.2.2.2.2.2.2.1
  have T2 : TR σ (tvMk (x.1 1) (x.1 2) (x.1 3) (x.1 4) (x.1 5) (x.1 6) (x.1 7) (I (σ 3)) (x.1 9) (x.2.1 0) (x.2.1 1) (x.2.1 2) (x.2.1 3) (x.2.1 4) (x.2.1 5) (x.2.1 6) (x.2.1 7) (x.2.1 8) (x.2.1 9) (x.2.1 10) (x.2.1 11)) := by rw [← h7]; exact T
  unfold G_hall H_hall F_X11_hall F_X12_hall
  rw [hs, hβ, hm, hp, m_keep, bnd_some, h7, h28, h29]
  have hj := j_hall (v := xT x) hw T ha hf hg hQ (y.1 5)
  rcases hj with ⟨c, t, rn, rd, mr, md, mi, hc, e1, e2, hq, -⟩ | ⟨e1, em, g1, g2, g5, g6⟩
  · have hcc : (c = 2 ∧ t = 1) ∨ (c = 3 ∧ t = 2) := by simpa using hc
    obtain ⟨d1, d2⟩ := x_dFi (c := c) (by omega)
    rw [show F_X9_judgeHall (I a) (I f) (I g) (I (σ 3)) (x.2.1 5) (x.2.1 6) (x.2.1 7) (x.1 30) (x.1 31) = _ from e1, e2]
    simp only [bnd_some]
    rw [d1, bnd_some, brn_neg _ _ d2, m_endsF (t := t) (by omega) (by omega), bnd_some, CP_self]
    refine ⟨c.toNat, _, _, _, _, t, σ, π, n, e, ?_, rfl, rfl, rfl, fun q => absurd q d2, ?_, Or.inl ⟨d2, fun _ _ => rfl, rfl, rfl, rfl⟩⟩
    · rcases hcc with ⟨rfl, rfl⟩ | ⟨rfl, rfl⟩ <;> decide
    · exact ⟨⟨hw.mono (by omega), rfl, T2⟩, hK.mono (by omega), ⟨rfl, rfl, rfl, rfl, hP.mono (by omega)⟩, hq, hO, hS⟩
  · obtain ⟨w1, w2⟩ := d_hall_w (v := xT x) hw T g1 g2 g5 g6
    rw [show F_X9_judgeHall (I a) (I f) (I g) (I (σ 3)) (x.2.1 5) (x.2.1 6) (x.2.1 7) (x.1 30) (x.1 31) = _ from e1, em]
    simp only [bnd_some]
    rw [x_dFi0, bnd_some, brn_pos _ _ rfl]
    obtain ⟨pool', q1, q2⟩ := x_push T2 hw hP
    rw [q1, bnd_some, d_hall_x hw _ _ _ g6, bnd_some, show I 0 = (0 : Int32) from rfl, m_ends hP.1, bnd_some]
    exact ⟨0, _, _, _, _, 0, _, _, _, _, by decide, rfl, rfl, rfl, fun _ => rfl, ⟨⟨w1.mono (by omega), rfl, w2⟩, hK.mono (by omega), ⟨rfl, rfl, rfl, rfl, q2.mono (by omega)⟩, hQ, hO, hS⟩, Or.inr ⟨rfl, rfl, rfl, rfl, ⟨_, rfl, by omega, by omega⟩⟩⟩
theorem om_tell (hR : St b σ π n e x y) (hb : 0 ≤ b) (p1 p2 : Int32) : OPM [(0, 0), (1, 1), (2, 2), (3, 3)] b σ π n e (G_tell p1 p2 x) (H_tell p1 p2 y) := by
  obtain ⟨⟨hw, hs, T⟩, hK, ⟨h28, h29, hm, hp, hP⟩, hQ, hO, hS⟩ := hR
  have f2 := hw.n; have f3 := hw.m; have f4 := hw.q; have f0 := hw.hour
  obtain ⟨a, ha, rfl⟩ := I_ex p1
  obtain ⟨t, ht, rfl⟩ := I_ex p2
  obtain ⟨β, -, hβ⟩ := J_ex (y.2 1)
  have hq4 := hw.q
  have h3 : x.1 3 = I (σ 8 - 1) := T.1.2.2.1
  have h7 : x.1 9 = I (σ 4) := T.1.2.2.2.2.2.2.2.2
  have T2 : TR σ (tvMk (x.1 1) (x.1 2) (I (σ 8 - 1)) (x.1 4) (x.1 5) (x.1 6) (x.1 7) (x.1 8) (I (σ 4)) (x.2.1 0) (x.2.1 1) (x.2.1 2) (x.2.1 3) (x.2.1 4) (x.2.1 5) (x.2.1 6) (x.2.1 7) (x.2.1 8) (x.2.1 9) (x.2.1 10) (x.2.1 11)) := by rw [← h7, ← h3]; exact T
  unfold G_tell H_tell F_X11_tell F_X12_tell
  rw [hs, hβ, hm, hp, m_keep, bnd_some, h7, h3, h28, h29]
  have hj := j_tell (v := xT x) hw T ha ht hQ (y.1 5)
  rcases hj with ⟨c, u, rn, rd, mr, md, mi, hc, e1, e2, hq, -⟩ | ⟨e1, g1, g2, em⟩
  · have hcc : (c = 1 ∧ u = 1) ∨ (c = 2 ∧ u = 2) ∨ (c = 3 ∧ u = 3) := by simpa using hc
    obtain ⟨d1, d2⟩ := x_dFi (c := c) (by omega)
    rw [show F_X9_judgeTell (I a) (I t) (I (σ 8 - 1)) (I (σ 4)) (x.2.1 9) (x.2.1 11) (x.1 30) (x.1 31) = _ from e1, e2]
    simp only [bnd_some]
    rw [d1, bnd_some, brn_neg _ _ d2, m_endsF (t := u) (by omega) (by omega), bnd_some, CP_self]
    refine ⟨c.toNat, _, _, _, _, u, σ, π, n, e, ?_, rfl, rfl, rfl, fun q => absurd q d2, ?_, Or.inl ⟨d2, fun _ _ => rfl, rfl, rfl, rfl⟩⟩
    · rcases hcc with ⟨rfl, rfl⟩ | ⟨rfl, rfl⟩ | ⟨rfl, rfl⟩ <;> decide
    · exact ⟨⟨hw.mono (by omega), rfl, T⟩, hK.mono (by omega), ⟨rfl, rfl, rfl, rfl, hP.mono (by omega)⟩, hq, hO, hS⟩
  · obtain ⟨p, rfl⟩ := Int.eq_ofNat_of_zero_le g1.1
    obtain ⟨w1, w2⟩ := d_tell_w (v := xT x) hw T g1.2 g2
    have kc := x_canN w1 (TR.a8 w2) (TR.a9 w2) (TR.a10 w2)
    have h4 : tellS σ p t 4 = σ 4 := by unfold tellS; exact U_ne _ _ (by omega)
    rw [h4] at kc
    rw [show F_X9_judgeTell (I p) (I t) (I (σ 8 - 1)) (I (σ 4)) (x.2.1 9) (x.2.1 11) (x.1 30) (x.1 31) = _ from e1, em]
    simp only [bnd_some]
    rw [x_dFi0, bnd_some, brn_pos _ _ rfl]
    obtain ⟨pool', q1, q2⟩ := x_push T2 hw hP
    rw [q1, bnd_some, d_tell_x g1.2 hq4.2, bnd_some, show F_X9_countFits (I (σ 4)) (x.2.1 8) (upd (x.2.1 9) p (I t)) (x.2.1 10) = _ from kc, bnd_some, show I 0 = (0 : Int32) from rfl, m_ends hP.1, bnd_some]
    exact ⟨0, _, _, _, _, 0, _, _, _, _, by decide, rfl, rfl, rfl, fun _ => rfl, ⟨⟨w1.mono (by omega), rfl, w2⟩, hK.mono (by omega), ⟨rfl, rfl, rfl, rfl, q2.mono (by omega)⟩, hQ, hO, hS⟩, Or.inr ⟨rfl, rfl, rfl, rfl, ⟨_, rfl, (canN_in _).1, by have := (canN_in (tellS σ p t)).2; omega⟩⟩⟩
theorem om_ring (hR : St b σ π n e x y) (hb : 0 ≤ b) (hb2 : b < 900000) (p1 p2 p3 : Int32) : OPM [(0, 0), (1, 1), (2, 2)] b σ π n e (G_ring p1 p2 p3 x) (H_ring p1 p2 p3 y) := by
  obtain ⟨⟨hw, hs, T⟩, hK, ⟨h28, h29, hm, hp, hP⟩, hQ, hO, hS⟩ := hR
  have f2 := hw.n; have f3 := hw.m; have f4 := hw.q; have f0 := hw.hour
  obtain ⟨a, ha, rfl⟩ := I_ex p1
  obtain ⟨s, hs1, rfl⟩ := I_ex p2
  obtain ⟨l, hl, rfl⟩ := I_ex p3
  obtain ⟨β, -, hβ⟩ := J_ex (y.2 1)
  have hn := hw.n
  have h7 : x.1 7 = I (σ 2) := T.1.2.2.2.2.2.2.1
  unfold G_ring H_ring F_X11_ring F_X12_ring
  rw [hs, hβ, hm, hp, m_keep, bnd_some, h28, h29]
  by_cases e1 : 0 ≤ a ∧ a < σ 2
  · by_cases e2 : (0 ≤ s ∧ s ≤ 9) ∧ (0 ≤ l ∧ l ≤ 9) ∧ 0 < s + l
    · obtain ⟨i, rfl⟩ := Int.eq_ofNat_of_zero_le e1.1
      obtain ⟨τ, z, j2, j3, j4, j5, u3, u4, u9, u11, zr, r1, r2, w1, w2⟩ := d_ringZ (v := xT x) hw T e1.2 e2.1.1 e2.1.2 e2.2.1.1 e2.2.1.2 e2.2.2 hb hb2
      obtain ⟨pool', q1, q2⟩ := x_push (show TR σ (tvMk (x.1 1) (x.1 2) (x.1 3) (x.1 4) (x.1 5) (x.1 6) (x.1 7) (x.1 8) (x.1 9) (x.2.1 0) (x.2.1 1) (x.2.1 2) (x.2.1 3) (x.2.1 4) (x.2.1 5) (x.2.1 6) (x.2.1 7) (x.2.1 8) (x.2.1 9) (x.2.1 10) (x.2.1 11)) from T) hw hP
      rw [show F_X9_judgeRing (I i) (I s) (I l) (x.1 7) = some (I 0) by rw [h7]; exact x_judge_0 ha (by omega) hs1 hl e1 e2, bnd_some, x_dFi0, bnd_some, brn_pos _ _ rfl, q1, bnd_some, show F_X9_ringAt (I i) (I s) (I l) (x.1 1) (x.1 7) (x.2.1 0) (x.2.1 1) (x.2.1 2) (x.1 8) (x.2.1 5) (x.2.1 6) (x.2.1 7) (x.1 9) (x.1 3) (x.1 4) (x.1 5) (x.1 6) (x.2.1 3) (x.2.1 4) (x.2.1 9) (x.2.1 11) = _ from r1, bnd_some, r2]
      simp only [bnd_some]
      rw [m_ends hP.1, bnd_some]
      exact ⟨0, _, _, _, _, 0, _, _, _, _, by decide, rfl, rfl, rfl, fun _ => rfl, ⟨⟨w1.mono (by omega), rfl, w2⟩, hK.mono (by omega), ⟨rfl, rfl, rfl, rfl, q2.mono (by omega)⟩, hQ, hO, hS⟩, Or.inr ⟨rfl, rfl, rfl, rfl, ⟨_, rfl, zr.1, by omega⟩⟩⟩
    · have q3 : F_X12_doRing (I a) (I s) (I l) 0 (J σ) = some (0, I 2, J σ) := by
        unfold F_X12_doRing J_X12_doRing_16 J_X12_doRing_30
        rw [m_isHouse_p hw ha e1, bnd_some, brn_neg _ _ (by decide), m_tone_n hs1 hl e2, bnd_some, brn_pos _ _ (by decide), bnd_some, brn_neg _ _ (by decide)]
        rfl
      rw [show F_X9_judgeRing (I a) (I s) (I l) (x.1 7) = some (I 2) by rw [h7]; exact x_judge_2 ha (by omega) hs1 hl e1 e2, bnd_some, x_dFi2, bnd_some, brn_neg _ _ (by decide), q3, bnd_some, bnd_some, m_endsF (t := 2) (by omega) (by omega), bnd_some, CP_self]
      exact ⟨2, _, _, _, _, 2, σ, π, n, e, by decide, rfl, rfl, rfl, fun q => absurd q (by decide), ⟨⟨hw.mono (by omega), rfl, T⟩, hK.mono (by omega), ⟨rfl, rfl, rfl, rfl, hP.mono (by omega)⟩, hQ, hO, hS⟩, Or.inl ⟨by decide, fun _ _ => rfl, rfl, rfl, rfl⟩⟩
  · have q3 : F_X12_doRing (I a) (I s) (I l) 0 (J σ) = some (0, I 1, J σ) := by
      unfold F_X12_doRing J_X12_doRing_16 J_X12_doRing_30
      rw [m_isHouse_n hw ha e1, bnd_some, brn_pos _ _ (by decide), bnd_some, brn_pos _ _ (by decide)]
      rfl
    rw [show F_X9_judgeRing (I a) (I s) (I l) (x.1 7) = some (I 1) by rw [h7]; exact x_judge_1 (x := 0) (y := 0) ha (by omega) e1 _ _, bnd_some, x_dFi1, bnd_some, brn_neg _ _ (by decide), q3, bnd_some, bnd_some, m_endsF (t := 1) (by omega) (by omega), bnd_some, CP_self]
    exact ⟨1, _, _, _, _, 1, σ, π, n, e, by decide, rfl, rfl, rfl, fun q => absurd q (by decide), ⟨⟨hw.mono (by omega), rfl, T⟩, hK.mono (by omega), ⟨rfl, rfl, rfl, rfl, hP.mono (by omega)⟩, hQ, hO, hS⟩, Or.inl ⟨by decide, fun _ _ => rfl, rfl, rfl, rfl⟩⟩
/-- undo: the town of before -/
theorem om_undo (hR : St b σ π n e x y) (h0 : n ≠ 0) : ∃ x' y' σ', G_undo x = some (0, I ((n - 1 : Nat) : Int), x') ∧ H_undo y = some (I ((n - 1 : Nat) : Int), y') ∧ (∀ j, j < 147 → σ' j = π (147 * (n - 1) + j)) ∧ St (b + 300) σ' π (n - 1) ((e + 7) % 8) x' y' := by
  obtain ⟨⟨hw, hs, T⟩, hK, ⟨h28, h29, hm, hp, hP⟩, hQ, hO, hS⟩ := hR
  have hn := hP.1
  have he := hP.2.1
  unfold G_undo H_undo F_X11_undo J_X11_undo_15 F_X4_size F_X12_undo J_X12_undo_13
  rw [hs, hm, hp, h28, h29]
  have e1 := h0
  have c0 : (0 : Int32).toNatClampNeg = 0 := by decide
  have c1 : (147 : Int32).toNatClampNeg = 147 := by decide
  have lit_1176 : (1176 : Int32) = I 1176 := by decide
  have i1 : ((I (e : Int) + 8) - 1) - ((I (e : Int) + 8) - 1) / 8 * 8 = I (((e + 7) % 8 : Nat) : Int) := by
    rw [lit_8, lit_1, I_add, I_sub, I_rem (by omega) (by omega) (by omega) (by omega)]
    congr 1
    omega
  have i2 : (I (((e + 7) % 8 : Nat) : Int)).toNatClampNeg = (e + 7) % 8 := by rw [I_cl (by omega) (by omega)]; omega
  have i3 : 147 * (I (n : Int) - 1) = I ((147 * (n - 1) : Nat) : Int) := by
    rw [lit_147, lit_1, I_sub, I_mul]
    congr 1
    omega
  have i4 : (I ((147 * (n - 1) : Nat) : Int)).toNatClampNeg = 147 * (n - 1) := by rw [I_cl (by omega) (by omega)]; omega
  have i5 : I (n : Int) - 1 = I ((n - 1 : Nat) : Int) := by
    rw [lit_1, I_sub]
    congr 1
    omega
  obtain ⟨a1, a2⟩ := hP.2.2.2 (n - 1) (by omega)
  rw [show (e + 8 - n + (n - 1)) % 8 = (e + 7) % 8 by omega] at a2
  have ec : ∀ k : Nat, k < 147 → CP π σ (147 * (n - 1)) 0 147 k = (fun k => π (147 * (n - 1) + k)) k := by
    intro k hk
    show CP π σ (147 * (n - 1)) 0 147 k = π (147 * (n - 1) + k)
    unfold CP
    rw [if_pos (by omega)]
    exact congrArg π (by omega)
  have w1 : WF b (CP π σ (147 * (n - 1)) 0 147) := WF_cong a1 (CP_r hP.2.2.1 hw.r) ec
  have w2 := TR_cong a1 (TR_take a1 a2 (xT x)) ec
  unfold F_X4_pop
  rw [bnd_some, brn_neg _ _ (by rw [lit_0, I_le (by omega) (by omega) (by omega) (by omega)]; omega), x_dR1, bnd_some, brn_pos _ _ rfl, i1, grd_pos _ (by rw [I_inb (by omega) (by omega)]; omega), i2, brn_neg _ _ (by rw [lit_0, I_le (by omega) (by omega) (by omega) (by omega)]; omega), x_take9, bnd_some, bnd_some, bnd_some, brn_neg _ _ (by rw [lit_0, I_eq (by omega) (by omega) (by omega) (by omega)]; omega), brn_pos _ _ (by decide), i3, grd_pos _ (by rw [lit_0, lit_147]; exact I_cpy (by omega) (by omega) (by omega) (by omega) (by omega) (by omega) (by omega) (by omega)), i4, c0, c1, J_cpy, i5]
  exact ⟨_, _, _, rfl, rfl, ec, ⟨⟨w1.mono (by omega), rfl, w2⟩, hK.mono (by omega), ⟨rfl, rfl, rfl, hp, (Pst_pop hP (by omega)).mono (by omega)⟩, hQ, hO, hS⟩⟩
theorem OPM_run {cs : List (Nat × Int)} {k : Nat} {a v2 ps pn rn rd ct pl er pm th rs dt rf at_ wr om : Int32} {V W : TVal} {pool : Nat → TVal} {K N s bf past O : Nat → Int32} {t : Int} {ρ π : Nat → Int} {n e : Nat} {σ1 π1 : Nat → Int} {n1 e1 : Nat}
    (hF : F_X11_run (x.2.1 36) (x.1 1) (x.1 2) (x.1 3) (x.1 4) (x.1 5) (x.1 6) (x.1 7) (x.2.1 0) (x.2.1 1) (x.2.1 2) (x.2.1 3) (x.2.1 4) (x.1 8) (x.2.1 5) (x.2.1 6) (x.2.1 7) (x.1 9) (x.2.1 8) (x.2.1 9) (x.2.1 10) (x.2.1 11) (x.1 10) (x.1 11) (x.1 12) (x.1 13) (x.1 14) (x.1 15) (x.1 16) (x.2.1 12) (x.2.1 13) (x.2.1 14) (x.2.1 15) (x.2.1 16) (x.1 17) (x.2.1 17) (x.2.1 18) (x.2.1 19) (x.1 18) (x.2.1 20) (x.2.1 21) (x.2.1 22) (x.2.1 23) (x.1 28) (x.1 29) x.2.2 (x.1 30) (x.1 31) (x.1 32) (x.1 33) (x.1 34) (x.1 35) (x.2.1 37) (x.2.1 38) = RU k a V W ps pn pool rn rd 0 ct pl er K N) (hH : F_X12_run (y.2 7) (y.1 1) (y.1 2) (y.1 3) (y.1 4) (y.1 5) (y.1 9) (y.1 10) (y.1 11) (y.1 12) (y.1 13) (y.2 0) (y.2 1) (y.2 3) (y.2 8) = some (0, v2, pm, th, rs, dt, rf, 0, at_, wr, er, om, s, bf, past, O))
    (hm : (k, t) ∈ cs) (ht : th = I t) (ha : k = 0 → a = v2) (w1 : WF (b + 300) ρ) (w2 : s = J ρ) (w3 : TR ρ V) (hK : RK b x y) (p1 : ps = I n) (p2 : pn = I e) (p3 : pm = I n) (p4 : past = J π) (p5 : Pst (b + 300) n e pool π) (hq : RQ rn rd rs dt) (hS : RS x y) (hz : (k ≠ 0 ∧ (∀ j, j < 147 → ρ j = σ1 j) ∧ π = π1 ∧ n = n1 ∧ e = e1) ∨ (k = 0 ∧ π = pushP n1 σ1 π1 ∧ n = (if n1 = 8 then 8 else n1 + 1) ∧ e = (e1 + 1) % 8 ∧ Nn a)) : OPM cs b σ1 π1 n1 e1 (G_run x) (H_run y) := by
  unfold G_run H_run
  rw [hF, hH]
  unfold RU
  rw [bnd_some, bnd_some, grd_pos _ (show (0 : Nat) = 0 from rfl)]
  exact ⟨k, a, _, v2, _, t, ρ, π, n, e, hm, rfl, rfl, ht, ha, ⟨ ⟨w1, w2, w3⟩, hK.mono (by omega), ⟨p1, p2, p3, p4, p5⟩, hq, ⟨rfl, 0, by omega, rfl, rfl, fun i hi => by omega⟩, hS⟩, hz⟩
set_option maxHeartbeats 4000000 in
theorem om_run (hR : St b σ π n e x y) (hb : 0 ≤ b) (hb2 : b < 800000) : OPM [(0, 0), (2, 1), (3, 2)] b σ π n e (G_run x) (H_run y) := by
  obtain ⟨⟨hw, hs, T⟩, hK, ⟨h28, h29, hm, hp, hP⟩, hQ, ⟨hE, m, m60, h32, h9, hr⟩, hS⟩ := hR
  obtain ⟨β, hβr, hβ⟩ := J_ex (y.2 1)
  obtain ⟨q2, fl, ct, om, K2, N2, O2, r1, r2, r3, r4⟩ := rd_all (X := x.2.1 36) (Y := y.2 7) m60 hr (x.1 33) (x.1 34) (x.1 35) (y.1 12) (y.1 1) (y.1 2) (y.1 3) (y.1 4) (y.1 5) (y.1 10) (y.1 11) (y.1 13) (y.2 0) (y.2 1) (y.2 3) (x.2.1 37) (x.2.1 38) (y.2 8)
  rw [← h32] at r2
  rw [← h9] at r3
  have hF : F_X11_run (x.2.1 36) (x.1 1) (x.1 2) (x.1 3) (x.1 4) (x.1 5) (x.1 6) (x.1 7) (x.2.1 0) (x.2.1 1) (x.2.1 2) (x.2.1 3) (x.2.1 4) (x.1 8) (x.2.1 5) (x.2.1 6) (x.2.1 7) (x.1 9) (x.2.1 8) (x.2.1 9) (x.2.1 10) (x.2.1 11) (x.1 10) (x.1 11) (x.1 12) (x.1 13) (x.1 14) (x.1 15) (x.1 16) (x.2.1 12) (x.2.1 13) (x.2.1 14) (x.2.1 15) (x.2.1 16) (x.1 17) (x.2.1 17) (x.2.1 18) (x.2.1 19) (x.1 18) (x.2.1 20) (x.2.1 21) (x.2.1 22) (x.2.1 23) (x.1 28) (x.1 29) x.2.2 (x.1 30) (x.1 31) (x.1 32) (x.1 33) (x.1 34) (x.1 35) (x.2.1 37) (x.2.1 38) = _ := FRUN (v := xT x) (w := xA x) r2
  have TA : TR σ (cpT (xT x) (xA x)) := TR_take hw T (xA x)
  have back : ∀ V : TVal, TR σ (cpT (cpT (xT x) (xA x)) V) := fun V => TR_take hw TA V
  cases fl with
  | false =>
    have e1 : LR (x.2.1 36) 100 2 0 (xT x) (cpT (xT x) (xA x)) (x.1 28) (x.1 29) x.2.2 (x.1 30) (x.1 31) 0 ct (I q2) (eP false q2) K2 N2 = RU 2 0 (cpT (cpT (xT x) (xA x)) (xT x)) (cpT (xT x) (xA x)) (x.1 28) (x.1 29) x.2.2 (x.1 30) (x.1 31) 0 ct (I q2) (eP false q2) K2 N2 :=
      (LR_off (f := 99) (Or.inr (by decide))).trans (JS_n (cc := 2) (by omega) (by omega))
    rw [if_neg (by decide), e1] at hF
    have e2 : J_X12_run_90 (y.2 7) (eP false q2) (y.1 1) (y.1 2) (y.1 3) (y.1 4) (y.1 5) (y.1 9) (I q2) (bI (!false)) (y.1 12) om (y.2 0) (y.2 1) (y.2 3) O2 = some (0, 0, y.1 1, 1, y.1 3, y.1 4, y.1 5, 0, I q2, 1, eP false q2, om, y.2 0, y.2 1, y.2 3, O2) := by
      unfold J_X12_run_90 F_X12_fails
      rw [brn_neg _ _ (show ¬ bI (!false) = 0 by decide), bnd_some]
      rfl
    rw [e2] at r3
    exact OPM_run hF r3 (t := 1) (by decide) rfl (fun g => absurd g (by decide)) (hw.mono (by omega)) hs (back (xT x)) hK h28 h29 hm hp (hP.mono (by omega)) hQ hS (Or.inl ⟨by decide, fun _ _ => rfl, rfl, rfl, rfl⟩)
  | true =>
    obtain ⟨c2, c20, rfl, rfl, ok⟩ := r4 rfl
    rw [if_pos rfl] at hF
    have e2 : J_X12_run_90 (y.2 7) (eP true q2) (y.1 1) (y.1 2) (y.1 3) (y.1 4) (y.1 5) (y.1 9) (I q2) (bI (!true)) (y.1 12) (I c2) (y.2 0) (y.2 1) (y.2 3) O2 = L_X12_run_117 (y.2 7) 100 0 (y.1 1) 0 (y.1 3) (y.1 4) (y.1 5) 0 (I q2) 0 (eP true q2) (I c2) (J σ) (J (CP σ β 0 0 147)) (y.2 3) O2 := by
      unfold J_X12_run_90
      rw [brn_pos _ _ (show bI (!true) = 0 from rfl), hs, hβ, m_keep, bnd_some]
      rfl
    rw [e2] at r3
    obtain ⟨cc, t, rn2, rd2, mr2, md2, mi2, τ2, v2, z1, z2, z3⟩ := run_loop (X := x.2.1 36) (Y := y.2 7) (K := K2) (N := N2) (O := O2) (w := cpT (xT x) (xA x)) (ps := x.1 28) (pn := x.1 29) (sz := 0) (pl := I q2) (er := eP true q2) (pool := x.2.2) c20 ok (y.1 1) (I q2) (eP true q2) (J (CP σ β 0 0 147)) (y.2 3) c2 0 100 100 b σ (xT x) (x.1 30) (x.1 31) (y.1 3) (y.1 4) (y.1 5) (by omega) (by omega) (by omega) hw hb (by omega) T hQ
    rw [show LR (x.2.1 36) 100 0 0 (xT x) (cpT (xT x) (xA x)) (x.1 28) (x.1 29) x.2.2 (x.1 30) (x.1 31) 0 (I c2) (I q2) (eP true q2) K2 N2 = _ from z2] at hF
    rcases z3 with ⟨rfl, y2, y3, y4⟩ | ⟨y1, y2, y3, y4, y5⟩
    · obtain ⟨pool2, j1, j2⟩ := JS_0 (X := x.2.1 36) (K := K2) (N := N2) (v := v2) (w := cpT (xT x) (xA x)) (sz := 0) (ct := I c2) (pl := I q2) (er := eP true q2) (rn := rn2) (rd := rd2) hw TA hP
      rw [← h28, ← h29] at j1
      rw [j1] at hF
      have e3 : L_X12_run_117 (y.2 7) 100 0 (y.1 1) 0 (y.1 3) (y.1 4) (y.1 5) 0 (I q2) 0 (eP true q2) (I c2) (J σ) (J (CP σ β 0 0 147)) (y.2 3) O2 = some (0, I c2, I (if n = 8 then 8 else n + 1 : Nat), 0, mr2, md2, mi2, 0, I q2, 0, eP true q2, I c2, J τ2, J (CP σ β 0 0 147), J (pushP n σ π), O2) := by
        refine Eq.trans y4 ?_
        unfold RE
        rw [hm, hp, m_ends hP.1, bnd_some]
      rw [e3] at r3
      exact OPM_run hF r3 (t := 0) (by decide) rfl (fun _ => rfl) (y2.mono (by omega)) rfl y3 hK rfl rfl rfl rfl (j2.mono (by omega)) z1 hS (Or.inr ⟨rfl, rfl, rfl, rfl, ⟨_, rfl, by omega, by omega⟩⟩)
    · rw [JS_n y1 y2] at hF
      obtain ⟨ζ, hζ, eζ⟩ := J_ex (J τ2)
      have ec : ∀ k : Nat, k < 147 → CP σ ζ 0 0 147 k = σ k := by
        intro k hk
        unfold CP
        rw [if_pos (by omega)]
        exact congrArg σ (by omega)
      have w1 : WF b (CP σ ζ 0 0 147) := WF_cong hw (CP_r hw.r hζ) ec
      have w2 := TR_cong hw (back v2) ec
      have e3 : ∀ u : Int, u = 1 ∨ u = 2 → J_X12_run_155 (y.2 7) (I u) (y.1 1) (I t) mr2 md2 mi2 0 (I q2) 0 (eP true q2) (I c2) (J τ2) (J (CP σ β 0 0 147)) (y.2 3) O2 = some (0, 0, y.1 1, I u, mr2, md2, mi2, 0, I q2, 0, eP true q2, I c2, J (CP σ ζ 0 0 147), J (CP σ β 0 0 147), y.2 3, O2) := by
        intro u hu
        unfold J_X12_run_155
        rw [eζ, m_endsF (t := u) (by omega) (by omega), bnd_some]
      rw [show L_X12_run_117 (y.2 7) 100 0 (y.1 1) 0 (y.1 3) (y.1 4) (y.1 5) 0 (I q2) 0 (eP true q2) (I c2) (J σ) (J (CP σ β 0 0 147)) (y.2 3) O2 = _ from y5] at r3
      by_cases c3 : cc = 3
      · rw [if_pos c3] at hF r3
        rw [show J_X12_run_155 (y.2 7) 2 (y.1 1) (I t) mr2 md2 mi2 0 (I q2) 0 (eP true q2) (I c2) (J τ2) (J (CP σ β 0 0 147)) (y.2 3) O2 = _ from e3 2 (Or.inr rfl)] at r3
        exact OPM_run hF r3 (t := 2) (by decide) rfl (fun g => absurd g (by decide)) (w1.mono (by omega)) rfl w2 hK h28 h29 hm hp (hP.mono (by omega)) z1 hS (Or.inl ⟨by decide, ec, rfl, rfl, rfl⟩)
      · rw [if_neg c3] at hF r3
        rw [show J_X12_run_155 (y.2 7) 1 (y.1 1) (I t) mr2 md2 mi2 0 (I q2) 0 (eP true q2) (I c2) (J τ2) (J (CP σ β 0 0 147)) (y.2 3) O2 = _ from e3 1 (Or.inl rfl)] at r3
        exact OPM_run hF r3 (t := 1) (by decide) rfl (fun g => absurd g (by decide)) (w1.mono (by omega)) rfl w2 hK h28 h29 hm hp (hP.mono (by omega)) z1 hS (Or.inl ⟨by decide, ec, rfl, rfl, rfl⟩)
/-- a sign more: the town and the past stay -/
theorem om_append (hR : St b σ π n e x y) (p1 : Int32) {m : Nat} (h0 : x.1 32 = I m) (hm : m < 60) : ∃ x' y' w, G_append p1 x = some (0, I ((m + 1 : Nat) : Int), x') ∧ H_append p1 y = some (w, y') ∧ St (b + 300) σ π n e x' y' ∧ x'.1 32 = I ((m + 1 : Nat) : Int) ∧ x'.2.1 36 = upd (x.2.1 36) m (vp_nar .char p1)  := by
  obtain ⟨hT, hK, hPP, hQ, ⟨hE, m1, m60, h32, h9, hr⟩, hS⟩ := hR
  obtain rfl : m = m1 := by
    have := h0.symm.trans h32
    rw [I_eq (by omega) (by omega) (by omega) (by omega)] at this
    omega
  unfold G_append H_append F_X11_append F_X12_append J_X11_append_15 J_X12_append_15 F_X3_isFull F_X3_add J_X3_add_32
  rw [h32, h9]
  have lit_60' : (60 : Int32) = I 60 := by decide
  have e1 : ¬ m = 60 := by omega
  have ecl : (I (m : Int)).toNatClampNeg = m := by rw [I_cl (by omega) (by omega)]; omega
  have ei : I (m : Int) + 1 = I ((m + 1 : Nat) : Int) := by rw [lit_1, I_add]; congr 1
  have ib : inb (I (m : Int)) 60 := by rw [I_inb (by omega) (by omega)]; omega
  rw [brn_pos _ _ (by rw [lit_60', I_lt (by omega) (by omega) (by omega) (by omega)]; omega), bnd_some, brn_pos _ _ rfl, x_dR1, bnd_some, brn_pos _ _ rfl, brn_neg _ _ (by rw [lit_60', I_le (by omega) (by omega) (by omega) (by omega)]; omega), grd_pos _ ib, brn_neg _ _ (by rw [lit_60', I_eq (by omega) (by omega) (by omega) (by omega)]; omega), brn_pos _ _ (by decide), grd_pos _ ib, ecl, ei, bnd_some]
  refine ⟨_, _, _, rfl, rfl, ⟨hT.mono (by omega), hK.mono (by omega), hPP.mono (by omega), hQ, ⟨hE, m + 1, by omega, rfl, rfl, fun i hi => ?_⟩, hS⟩, rfl, rfl⟩
  show upd (x.2.1 36) m (vp_nar .char p1) i = upd (y.2 7) m (vp_nar .char p1) i
  unfold upd
  by_cases q : i = m
  · rw [if_pos q, if_pos q]
  · rw [if_neg q, if_neg q]
    exact hr i (by omega)
end OMS
