/-! ===== the round, told by both ===== -/
section RND
variable {b : Int} {σ : Nat → Int} {v : TVal}
theorem vs_U (S : Nat → Int) (m g h : Nat) : vs (U S m g) (m + 1) h = (vs S m h || decide (h = g)) := by
  cases e : (vs S m h || decide (h = g)) with
  | false =>
    rw [Bool.or_eq_false_iff] at e
    have e2 := of_decide_eq_false e.2
    refine (vs_f _ _ _).mpr (fun i hi => ?_)
    rw [U_at]
    split
    · omega
    · exact (vs_f S m h).mp e.1 i (by omega)
  | true =>
    refine Classical.byContradiction (fun q => ?_)
    have q : vs (U S m g) (m + 1) h = false := by simpa using q
    have g1 := (vs_f _ _ _).mp q
    have a : vs S m h = false := (vs_f _ _ _).mpr (fun i hi => by
      have := g1 i (by omega)
      rw [U_ne _ _ (by omega)] at this
      exact this)
    have c := g1 m (by omega)
    rw [U_same] at c
    rw [a, decide_eq_false (by omega)] at e
    cases e
theorem rnd (h : WF b σ) (T : TR σ v) : ∀ (r m f f2 : Nat) (g : Int) (S : Nat → Int) (B ss : Int32) (st q stops st3 goes : Nat → Int32), m + r = 11 → r < f → r < f2 → AR stops S m → AR goes S m → (∀ k, InR (S k)) → (∀ i : Nat, i < m → 0 ≤ S i ∧ S i < σ 2) → (∀ i j : Nat, i < j → j < m → S i ≠ S j) → (∀ h : Nat, h < 10 → bt B h = vs S m h) → (g = -1 ∨ 0 ≤ g ∧ g < σ 2 ∧ vs S m g.toNat = false) →
    ∃ (N : Nat) (tot : Int32) (S2 : Nat → Int) (st2 q2 stops2 st4 goes2 : Nat → Int32), N ≤ 10 ∧ L_X10_goRound_29 (I (σ 2)) (v.2 0) (v.2 10) f (I g) (I m) (I m) ss st q stops = some (I N, tot, st2, q2, stops2) ∧ L_X12_tellsRound_27 (J σ) f2 (I g) B (I m) ss st3 goes = some (I N, tot, st4, goes2) ∧ AR stops2 S2 N ∧ AR goes2 S2 N ∧ (∀ k, InR (S2 k)) ∧ (∀ i : Nat, i < N → 0 ≤ S2 i ∧ S2 i < σ 2) := by
  have hn := h.n
  have few : ∀ (S : Nat → Int) (m : Nat), (∀ i : Nat, i < m → 0 ≤ S i ∧ S i < σ 2) → (∀ i j : Nat, i < j → j < m → S i ≠ S j) → m ≤ 10 := by
    intro S m h1 h2
    exact fb_holes 10 m (fun i => (S i).toNat) (fun i hi => by have := h1 i hi; show (S i).toNat < 10; omega) (fun i j h3 h4 => by
      have a1 := h1 i (by omega)
      have a2 := h1 j h4
      have a3 := h2 i j h3 h4
      show (S i).toNat ≠ (S j).toNat
      omega)
  intro r
  induction r with
  | zero =>
    intro m f f2 g S B ss st q stops st3 goes hm hf hf2 h1 h2 h3 h4 h5 h6 h7
    have := few S m h4 h5
    omega
  | succ r ih =>
    intro m f f2 g S B ss st q stops st3 goes hm hf hf2 h1 h2 h3 h4 h5 h6 h7
    obtain ⟨f, rfl⟩ : ∃ g, f = g + 1 := ⟨f - 1, by omega⟩
    obtain ⟨f2, rfl⟩ : ∃ g, f2 = g + 1 := ⟨f2 - 1, by omega⟩
    rcases h7 with rfl | ⟨g1, g2, g3⟩
    · refine ⟨m, ss, S, st, q, stops, st3, goes, few S m h4 h5, ?_, ?_, h1, h2, h3, h4⟩
      · rw [L_X10_goRound_29]
        by_cases e : (10 : Int32) ≤ I (m : Int)
        · rw [brn_pos _ _ e]
        · rw [brn_neg _ _ e, brn_pos _ _ (by rw [m1])]
      · rw [L_X12_tellsRound_27, brn_pos _ _ (by decide)]
    · obtain ⟨p, rfl⟩ := Int.eq_ofNat_of_zero_le g1
      rw [Int.toNat_natCast] at g3
      have S4 : ∀ i : Nat, i < m + 1 → 0 ≤ U S m (p : Int) i ∧ U S m (p : Int) i < σ 2 := by
        intro i hi
        rw [U_at]
        split
        · omega
        · exact h4 i (by omega)
      have S5 : ∀ i j : Nat, i < j → j < m + 1 → U S m (p : Int) i ≠ U S m (p : Int) j := by
        intro i j hij hj
        rw [U_ne _ _ (show i ≠ m by omega), U_at]
        split
        · exact (vs_f S m p).mp g3 i (by omega)
        · exact h5 i j hij (by omega)
      have m10 := few _ _ S4 S5
      have S3 : ∀ k, InR (U S m (p : Int) k) := U_r h3 (by omega)
      have hc := h.house (i := p) (by omega)
      obtain ⟨c, ec⟩ := Int.eq_ofNat_of_zero_le hc.1.1
      have c64 : c < 64 := by omega
      obtain ⟨st5, q5, D, u1, u2, hW⟩ := x_measure h T.a10 c64 st q
      obtain ⟨st6, D2, w1, hW2, w2⟩ := m_tellsWays h c64 st3
      have hD : ∀ c : Nat, c < 64 → -1 ≤ D c ∧ D c ≤ 63 := fun c hc => ⟨hW.2.1 c hc, WY_63 c64 hW hc⟩
      have w3 : AR st6 (RW D) 64 := fun i hi => by
        rw [w2 i hi]
        unfold RW
        rw [WY_eq hW2 hW (show i < 64 by omega)]
      have AS : AR (upd stops m (I p)) (U S m (p : Int)) ((m + 1 : Nat) : Int) := by
        intro i hi
        unfold upd
        rw [U_at]
        by_cases e : i = m
        · rw [if_pos e, if_pos e]
        · rw [if_neg e, if_neg e]
          exact h1 i (by omega)
      have AG : AR (upd goes m (I p)) (U S m (p : Int)) ((m + 1 : Nat) : Int) := by
        intro i hi
        unfold upd
        rw [U_at]
        by_cases e : i = m
        · rw [if_pos e, if_pos e]
        · rw [if_neg e, if_neg e]
          exact h2 i (by omega)
      have HB : ∀ h : Nat, h < 10 → bt (B ||| ((1 : Int32) <<< (I (p : Int) &&& 31))) h = vs (U S m (p : Int)) (m + 1) h := by
        intro k hk
        rw [bit_or B (by omega) (by omega), h6 k hk, vs_U]
      obtain ⟨R, hR⟩ : ∃ R, R = nrF (cD σ D) (vs (U S m (p : Int)) (m + 1)) (σ 2).toNat 0 (-1) := ⟨_, rfl⟩
      have nI := nrF_in (C := cD σ D) (V := vs (U S m (p : Int)) (m + 1)) (n := σ 2) (σ 2).toNat 0 (-1) (by omega) (Or.inl rfl)
      rw [← hR] at nI
      have xn := x_near h T u2 hD AS m10 S3 (σ 2).toNat 0 100 (-1) (-1) R (by omega) (by omega) (Or.inl rfl) (by rw [if_pos (by omega)]) hR
      have mn := m_near h w3 hD HB (L_X12_tellsRound_27 (J σ) f2) (I m + 1) ss (upd goes m (I p)) (σ 2).toNat 0 100 (-1) R (by omega) (by omega) (Or.inl rfl) hR
      have kk : I (m : Int) + 1 = I ((m + 1 : Nat) : Int) := by rw [lit_1, I_add]; congr 1
      have R7 : R = -1 ∨ 0 ≤ R ∧ R < σ 2 ∧ vs (U S m (p : Int)) (m + 1) R.toNat = false := by
        rcases nI with e | e
        · exact Or.inl e
        · exact Or.inr ⟨e.1, e.2.1, e.2.2.1⟩
      obtain ⟨N, tot, S2, st2, q2, stops2, st4, goes2, z1, z2, z3, z4⟩ := ih (m + 1) f f2 R (U S m (p : Int)) (B ||| ((1 : Int32) <<< (I (p : Int) &&& 31))) (ss + I (if R < 0 then 0 else cD σ D R.toNat)) st5 q5 (upd stops m (I p)) st6 (upd goes m (I p)) (by omega) (by omega) (by omega) AS AG S3 S4 S5 HB R7
      have ecl : (I (m : Int)).toNatClampNeg = m := by rw [I_cl (by omega) (by omega)]; omega
      refine ⟨N, tot, S2, st2, q2, stops2, st4, goes2, z1, ?_, ?_, z4⟩
      · rw [L_X10_goRound_29, brn_neg _ _ (by rw [show (10 : Int32) = I 10 from rfl, I_le (by omega) (by omega) (by omega) (by omega)]; omega), brn_neg _ _ (by rw [m1, I_eq (by omega) (by omega) (by omega) (by omega)]; omega), x_put (N := 10) (by decide) (i := m) (by omega), bnd_some, x_hcell h T.a0 (i := p) (by omega), bnd_some, ec, u1, bnd_some, kk]
        have xn2 : F_X10_nearest (I ((m + 1 : Nat) : Int)) st5 (upd stops m (I p)) (I (σ 2)) (v.2 0) = some (I R) := by
          unfold F_X10_nearest
          rw [m1]
          exact xn
        dsimp only
        rw [xn2, bnd_some]
        unfold J_X10_goRound_110
        rw [kk]
        rcases nI with e | ⟨e1, e2, e3, e4⟩
        · rw [brn_pos _ _ (by rw [e, m1])]
          rw [if_pos (by omega)] at z2
          exact z2
        · obtain ⟨i, rfl⟩ := Int.eq_ofNat_of_zero_le e1
          have hc2 := h.house (i := i) (by omega)
          obtain ⟨d, ed⟩ := Int.eq_ofNat_of_zero_le hc2.1.1
          have eD : cD σ D i = D d := by unfold cD; rw [ed]; rfl
          rw [if_neg (by omega), Int.toNat_natCast, eD] at z2
          rw [brn_neg _ _ (by rw [m1, I_eq (by omega) (by omega) (by omega) (by omega)]; omega), x_hcell h T.a0 (i := i) (by omega), bnd_some, ed, x_at64 u2 (i := d) (by omega) (by omega), bnd_some]
          exact z2
      · rw [L_X12_tellsRound_27, brn_neg _ _ (by rw [lit_0, I_lt (by omega) (by omega) (by omega) (by omega)]; omega), grd_pos _ (by rw [I_inb (by omega) (by omega)]; omega), m_cellOf h (i := p) (by omega), bnd_some, ec, show F_X12_tellsWays (I ((c : Nat) : Int)) (J σ) st3 = _ from w1, bnd_some, ecl]
        rw [m1]
        refine Eq.trans mn ?_
        rw [kk]
        exact z3
theorem x_round (h : WF b σ) (T : TR σ v) (sc ss mc ms : Int32) (st q stops st3 goes : Nat → Int32) : ∃ (N : Nat) (tot : Int32) (S2 : Nat → Int) (st2 q2 stops2 st4 goes2 : Nat → Int32), N ≤ 10 ∧ F_X10_goRound (I (σ 2)) (v.2 0) (v.2 10) sc ss st q stops = some (I N, tot, st2, q2, stops2) ∧ F_X12_tellsRound (J σ) mc ms st3 goes = some (I N, tot, st4, goes2) ∧ AR stops2 S2 N ∧ AR goes2 S2 N ∧ (∀ k, InR (S2 k)) ∧ (∀ i : Nat, i < N → 0 ≤ S2 i ∧ S2 i < σ 2) := by
  have hn := h.n
  have c2 : (2 : Int32).toNatClampNeg = 2 := by decide
  have b0 : ∀ h : Nat, h < 10 → bt 0 h = vs (fun _ => 0) 0 h := fun k _ => by rw [b_0]; rfl
  have em : ∀ a : Nat → Int32, AR a (fun _ => 0) ((0 : Nat) : Int) := fun a i hi => by omega
  unfold F_X10_goRound F_X12_tellsRound J_X10_goRound_26 J_X12_tellsRound_24
  rw [grd_pos _ (by decide), c2, J_at]
  by_cases e : σ 2 ≤ 0
  · obtain ⟨N, tot, S2, st2, q2, stops2, st4, goes2, z1, z2, z3, z4⟩ := rnd h T 11 0 100 100 (-1) (fun _ => 0) 0 0 st q stops st3 goes (by omega) (by omega) (by omega) (em _) (em _) (fun _ => by show InR 0; omega) (fun i hi => by omega) (fun i j h1 h2 => by omega) b0 (Or.inl rfl)
    refine ⟨N, tot, S2, st2, q2, stops2, st4, goes2, z1, ?_, ?_, z4⟩
    · rw [show F_X2_has 0 (I (σ 2)) = some (I 0) from x_has_n (a := 0) (by omega) (by omega) (by omega), bnd_some, brn_pos _ _ (by first | rfl | decide), m1]
      exact z2
    · rw [brn_pos _ _ (by rw [lit_0, I_le (by omega) (by omega) (by omega) (by omega)]; exact e), m1]
      exact z3
  · obtain ⟨N, tot, S2, st2, q2, stops2, st4, goes2, z1, z2, z3, z4⟩ := rnd h T 11 0 100 100 0 (fun _ => 0) 0 0 st q stops st3 goes (by omega) (by omega) (by omega) (em _) (em _) (fun _ => by show InR 0; omega) (fun i hi => by omega) (fun i j h1 h2 => by omega) b0 (Or.inr ⟨by omega, by omega, rfl⟩)
    refine ⟨N, tot, S2, st2, q2, stops2, st4, goes2, z1, ?_, ?_, z4⟩
    · rw [show F_X2_has 0 (I (σ 2)) = some (I 1) from x_has_p (a := 0) (by omega) (by omega) (by omega), bnd_some, brn_neg _ _ (by decide)]
      exact z2
    · rw [brn_neg _ _ (by rw [lit_0, I_le (by omega) (by omega) (by omega) (by omega)]; exact e)]
      exact z3
end RND
section OP7
variable {b : Int} {x : XVal} {y : MVal}
theorem op_steps (hR : Rel b x y) : OPK [(0, 0)] b (G_steps x) (H_steps y) := by
  obtain ⟨σ, π, n, e, ⟨hw, hs, T⟩, hK, hPP, hQ, hO, hS⟩ := hR
  have h7 : x.1 7 = I (σ 2) := T.1.2.2.2.2.2.2.1
  obtain ⟨N, tot, S2, st2, q2, stops2, st4, goes2, z1, z2, z3, z4⟩ := x_round hw T (x.1 36) (x.1 37) (y.1 6) (y.1 7) (x.2.1 39) (x.2.1 40) (x.2.1 42) (y.2 4) (y.2 5)
  unfold G_steps H_steps F_X11_steps F_X12_steps F_X10_roundSteps
  rw [h7, show F_X10_goRound (I (σ 2)) (x.2.1 0) (x.2.1 10) (x.1 36) (x.1 37) (x.2.1 39) (x.2.1 40) (x.2.1 42) = _ from z2, hs, z3, bnd_some, bnd_some, bnd_some, bnd_some, bnd_some]
  exact ⟨0, _, _, _, _, 0, by decide, rfl, rfl, rfl, fun _ => rfl, ⟨σ, π, n, e, ⟨hw.mono (by omega), hs, T⟩, hK.mono (by omega), hPP.mono (by omega), hQ, hO, hS⟩⟩
theorem op_round (hR : Rel b x y) (p1 : Int32) : OPK [(0, 0), (4, 1)] b (G_round p1 x) (H_round p1 y) := by
  obtain ⟨σ, π, n, e, ⟨hw, hs, T⟩, hK, hPP, hQ, hO, hS⟩ := hR
  obtain ⟨a, ha, rfl⟩ := I_ex p1
  have hn := hw.n
  have h7 : x.1 7 = I (σ 2) := T.1.2.2.2.2.2.2.1
  obtain ⟨N, tot, S2, st2, q2, stops2, st4, goes2, z1, z2, z3, z4, z5, z6, z7⟩ := x_round hw T (x.1 36) (x.1 37) (y.1 6) (y.1 7) (x.2.1 39) (x.2.1 40) (x.2.1 42) (y.2 4) (y.2 5)
  have iN : I (N : Int) - 1 = I ((N : Int) - 1) := by rw [lit_1, I_sub]
  by_cases e1 : 0 ≤ a ∧ a < N
  · obtain ⟨i, rfl⟩ := Int.eq_ofNat_of_zero_le e1.1
    have si := z7 i (by omega)
    have ecl : (I (i : Int)).toNatClampNeg = i := by rw [I_cl (by omega) (by omega)]; omega
    have hG : F_X11_round (I (i : Int)) (I (σ 2)) (x.2.1 0) (x.2.1 10) (x.1 36) (x.1 37) (x.2.1 39) (x.2.1 40) (x.2.1 42) = some (0, I (S2 i), I N, tot, st2, q2, stops2) := by
      unfold F_X11_round F_X10_stopAt J_X11_round_30
      rw [show F_X10_goRound (I (σ 2)) (x.2.1 0) (x.2.1 10) (x.1 36) (x.1 37) (x.2.1 39) (x.2.1 40) (x.2.1 42) = _ from z2, bnd_some]
      dsimp only
      rw [brn_neg _ _ (by rw [I_le (by omega) (by omega) (by omega) (by omega)]; omega), x_at10 z4 (i := i) e1.2 (by omega), bnd_some, bnd_some, brn_neg _ _ (by rw [m1, I_eq (by omega) (by omega) (by omega) (by omega)]; omega), show F_X11_demandFound 1 = some 0 from x_dFt, bnd_some, brn_pos _ _ rfl]
    have hH : F_X12_round (I (i : Int)) (J σ) (y.1 2) (y.1 6) (y.1 7) (y.2 4) (y.2 5) = some (I (S2 i), 0, I N, tot, st4, goes2) := by
      unfold F_X12_round J_X12_round_24
      rw [z3, bnd_some]
      dsimp only
      rw [iN, show F_X12_in (I (i : Int)) 0 (I ((N : Int) - 1)) = some (I 1) from (by rw [lit_0]; exact I_min (by omega) (by omega) (by omega) (by omega)), bnd_some, brn_neg _ _ (by decide), brn_pos _ _ (by decide), grd_pos _ (by rw [I_inb (by omega) (by omega)]; omega), ecl, z5 i e1.2]
    unfold G_round H_round
    rw [h7, hG, hs, hH, bnd_some, bnd_some]
    exact ⟨0, _, _, _, _, 0, by decide, rfl, rfl, rfl, fun _ => rfl, ⟨σ, π, n, e, ⟨hw.mono (by omega), hs, T⟩, hK.mono (by omega), hPP.mono (by omega), hQ, hO, hS⟩⟩
  · have hG : F_X11_round (I a) (I (σ 2)) (x.2.1 0) (x.2.1 10) (x.1 36) (x.1 37) (x.2.1 39) (x.2.1 40) (x.2.1 42) = some (4, 0, I N, tot, st2, q2, stops2) := by
      have g : F_X10_stopAt (I a) (I N) stops2 = some (I (-1)) := by
        unfold F_X10_stopAt
        by_cases e2 : (N : Int) ≤ a
        · rw [brn_pos _ _ (by rw [I_le (by omega) (by omega) (by omega) (by omega)]; exact e2), m1]
        · rw [brn_neg _ _ (by rw [I_le (by omega) (by omega) (by omega) (by omega)]; exact e2), x_atO (N := 10) (by decide) ha (by omega), bnd_some]
      unfold F_X11_round J_X11_round_30
      rw [show F_X10_goRound (I (σ 2)) (x.2.1 0) (x.2.1 10) (x.1 36) (x.1 37) (x.2.1 39) (x.2.1 40) (x.2.1 42) = _ from z2, bnd_some]
      dsimp only
      rw [g, bnd_some, brn_pos _ _ (by rw [m1]), show F_X11_demandFound 0 = some 4 from x_dFf, bnd_some, brn_neg _ _ (by decide)]
    have hH : F_X12_round (I a) (J σ) (y.1 2) (y.1 6) (y.1 7) (y.2 4) (y.2 5) = some (0, 1, I N, tot, st4, goes2) := by
      unfold F_X12_round J_X12_round_24
      rw [z3, bnd_some]
      dsimp only
      rw [iN, show F_X12_in (I a) 0 (I ((N : Int) - 1)) = some (I 0) from (by rw [lit_0]; exact I_mout ha (by omega) (by omega) (by omega)), bnd_some, brn_pos _ _ (by decide), brn_neg _ _ (by decide)]
    unfold G_round H_round
    rw [h7, hG, hs, hH, bnd_some, bnd_some]
    exact ⟨4, _, _, _, _, 1, by decide, rfl, rfl, rfl, fun q => absurd q (by decide), ⟨σ, π, n, e, ⟨hw.mono (by omega), hs, T⟩, hK.mono (by omega), hPP.mono (by omega), hQ, hO, hS⟩⟩
theorem op_way (hR : Rel b x y) (p1 p2 p3 : Int32) : OPK [(0, 0), (2, 1), (4, 2)] b (G_way p1 p2 p3 x) (H_way p1 p2 p3 y) := by
  obtain ⟨σ, π, n, e, ⟨hw, hs, T⟩, hK, hPP, hQ, hO, hS⟩ := hR
  obtain ⟨a, ha, rfl⟩ := I_ex p1
  obtain ⟨f, hf, rfl⟩ := I_ex p2
  have bad : (¬ (0 ≤ a ∧ a ≤ 63) ∨ ¬ (0 ≤ f ∧ f ≤ 63)) → OPK [(0, 0), (2, 1), (4, 2)] b (G_way (I a) (I f) p3 x) (H_way (I a) (I f) p3 y) := by
    intro q
    have hG : F_X11_way (I a) (I f) p3 (x.2.1 10) (x.2.1 39) (x.2.1 40) (x.2.1 41) = some (2, 0, x.2.1 39, x.2.1 40, x.2.1 41) := by
      unfold F_X11_way J_X11_way_18 J_X11_way_19
      by_cases e1 : 0 ≤ a ∧ a ≤ 63
      · rw [x_cell_p ha e1, bnd_some, brn_neg _ _ (by decide), x_cell_n hf (by omega), bnd_some, brn_pos _ _ (by decide), show F_X11_demandProper 0 = some 2 from x_dPf, bnd_some, brn_neg (c := 2 = 0) _ _ (by decide)]
      · rw [x_cell_n ha e1, bnd_some, brn_pos _ _ (by decide), show F_X11_demandProper 0 = some 2 from x_dPf, bnd_some, brn_neg (c := 2 = 0) _ _ (by decide)]
    have hH : F_X12_way (I a) (I f) p3 (y.2 0) (y.1 2) (y.2 4) = some (0, 1, y.2 4) := by
      unfold F_X12_way J_X12_way_14 F_X12_fails
      by_cases e1 : 0 ≤ a ∧ a ≤ 63
      · rw [m_cell_p ha e1, bnd_some, brn_neg _ _ (by decide), m_cell_n hf (by omega), bnd_some, brn_pos _ _ (by decide), bnd_some]
      · rw [m_cell_n ha e1, bnd_some, brn_pos _ _ (by decide), bnd_some]
    unfold G_way H_way
    rw [hG, hH, bnd_some, bnd_some]
    exact ⟨2, _, _, _, _, 1, by decide, rfl, rfl, rfl, fun q => absurd q (by decide), ⟨σ, π, n, e, ⟨hw.mono (by omega), hs, T⟩, hK.mono (by omega), hPP.mono (by omega), hQ, hO, hS⟩⟩
  by_cases e1 : 0 ≤ a ∧ a ≤ 63
  · by_cases e2 : 0 ≤ f ∧ f ≤ 63
    · obtain ⟨s, rfl⟩ := Int.eq_ofNat_of_zero_le e1.1
      obtain ⟨d, rfl⟩ := Int.eq_ofNat_of_zero_le e2.1
      have s64 : s < 64 := by omega
      have d64 : d < 64 := by omega
      obtain ⟨st2, q2, D, u1, u2, hW⟩ := x_measure hw T.a10 s64 (x.2.1 39) (x.2.1 40)
      obtain ⟨lo, v1, v2⟩ := x_lower hw T.a10 s64 hW (x.2.1 41)
      obtain ⟨rr, D2, t1, t2, t3⟩ := m_tellsWays hw s64 (y.2 4)
      have r2 : rr d = I (RW D d) := by
        rw [t3 d (by omega)]
        unfold RW
        rw [WY_eq t2 hW d64]
      have bD := hW.2.1 d d64
      have bD2 := WY_63 s64 hW d64
      have J55 : ∀ (st q l : Nat → Int32), J_X11_way_55 (I s) (I d) p3 (x.2.1 10) (I (D d)) st q l = if D d = -1 then some (4, 0, st, q, l) else some (0, I (D d), st, q, l) := by
        intro st q l
        unfold J_X11_way_55 J_X11_way_68
        by_cases z : D d = -1
        · rw [brn_pos _ _ (by rw [z, m1]), show F_X11_demandFound 0 = some 4 from x_dFf, bnd_some, brn_neg _ _ (by decide), if_pos z]
        · rw [brn_neg _ _ (by rw [m1, I_eq (by omega) (by omega) (by omega) (by omega)]; exact z), show F_X11_demandFound 1 = some 0 from x_dFt, bnd_some, brn_pos _ _ (by first | rfl | decide), if_neg z]
      have hG : ∃ st q l, F_X11_way (I s) (I d) p3 (x.2.1 10) (x.2.1 39) (x.2.1 40) (x.2.1 41) = if D d = -1 then some (4, 0, st, q, l) else some (0, I (D d), st, q, l) := by
        unfold F_X11_way J_X11_way_19 F_X10_stepsTo F_X10_lowestTo
        rw [x_cell_p (by omega) e1, x_cell_p (by omega) e2, bnd_some, bnd_some, brn_neg _ _ (by decide), brn_neg _ _ (by decide), show F_X11_demandProper 1 = some 0 from x_dPt, bnd_some, brn_pos _ _ (by first | rfl | decide), show F_X10_measure (I s) (x.2.1 10) (x.2.1 39) (x.2.1 40) = _ from u1, show F_X10_lower (I s) (x.2.1 10) (x.2.1 41) = _ from v1, bnd_some, bnd_some, show F_X7_at 64 (I (d : Int)) (st2, q2).1 = _ from x_at64 u2 (i := d) (by omega) (by omega), x_at64 v2 (i := d) (by omega) (by omega)]
        simp only [bnd_some]
        rw [J55, J55]
        by_cases z : p3 = 0
        · rw [brn_pos _ _ z]
          exact ⟨_, _, _, rfl⟩
        · rw [brn_neg _ _ z]
          exact ⟨_, _, _, rfl⟩
      have ecl : (I (d : Int)).toNatClampNeg = d := by rw [I_cl (by omega) (by omega)]; omega
      have iN : inb (I (d : Int)) 64 := by rw [I_inb (by omega) (by omega)]; omega
      have hH : ∃ st, F_X12_way (I s) (I d) p3 (J σ) (y.1 2) (y.2 4) = if D d = -1 then some (0, I 2, st) else some (I (D d), I 0, st) := by
        unfold F_X12_way J_X12_way_43
        rw [m_cell_p (by omega) e1, m_cell_p (by omega) e2, bnd_some, bnd_some, brn_neg _ _ (by decide), brn_neg _ _ (by decide), t1, bnd_some, grd_pos _ iN]
        refine ⟨rr, ?_⟩
        by_cases z : D d = -1
        · have r3 : rr d = I 1000 := by rw [r2, show RW D d = 1000 from if_pos z]
          rw [if_pos z, brn_pos _ _ (by rw [ecl, r3, lit_1000]), brn_neg _ _ (by decide)]
          rfl
        · have r3 : rr d = I (D d) := by rw [r2, show RW D d = D d from if_neg z]
          rw [if_neg z, brn_neg _ _ (by rw [ecl, r3, lit_1000, I_eq (by omega) (by omega) (by omega) (by omega)]; omega), brn_pos _ _ (by decide), grd_pos _ iN, ecl, r3]
          rfl
      obtain ⟨st, q, l, hG⟩ := hG
      obtain ⟨st3, hH⟩ := hH
      unfold G_way H_way
      rw [hs, hG, hH]
      by_cases z : D d = -1
      · rw [if_pos z, if_pos z, bnd_some, bnd_some]
        exact ⟨4, _, _, _, _, 2, by decide, rfl, rfl, rfl, fun q => absurd q (by decide), ⟨σ, π, n, e, ⟨hw.mono (by omega), hs, T⟩, hK.mono (by omega), hPP.mono (by omega), hQ, hO, hS⟩⟩
      · rw [if_neg z, if_neg z, bnd_some, bnd_some]
        exact ⟨0, _, _, _, _, 0, by decide, rfl, rfl, rfl, fun _ => rfl, ⟨σ, π, n, e, ⟨hw.mono (by omega), hs, T⟩, hK.mono (by omega), hPP.mono (by omega), hQ, hO, hS⟩⟩
    · exact bad (Or.inr e2)
  · exact bad (Or.inl e1)
end OP7
