/-! ===== undone ===== -/
section UND
variable {b : Int} {σ π : Nat → Int} {n e : Nat} {x : XVal} {y : MVal} {L : Nat} {xs : Nat → Int32}
/-- the past after d changes: the rows r 0 .. r (d - 1), told by the sums s -/
def UN (d n : Nat) (π : Nat → Int) (r : Nat → Nat → Int) (s : Nat → Int64) : Prop := d ≤ n ∧ n ≤ 8 ∧ ∀ k : Nat, k < d → (∀ j : Nat, j < 147 → π (147 * (n - d + k) + j) = r k j) ∧ (∀ j, InR (r k j)) ∧ s k = hS (r k)
theorem UN_push {d n : Nat} {π τ : Nat → Int} {r : Nat → Nat → Int} {s : Nat → Int64} (h : UN d n π r s) (hd : d ≤ 7) (hτ : ∀ k, InR (τ k)) : UN (d + 1) (if n = 8 then 8 else n + 1) (pushP n τ π) (fun k => if k = d then τ else r k) (vp_updL s d (hS τ)) := by
  obtain ⟨h1, h2, h3⟩ := h
  refine ⟨by split <;> omega, by split <;> omega, fun k hk => ?_⟩
  by_cases e : k = d
  · subst e
    refine ⟨fun j hj => ?_, fun j => ?_, ?_⟩
    · show pushP n τ π (147 * ((if n = 8 then 8 else n + 1) - (k + 1) + k) + j) = (if k = k then τ else r k) j
      rw [if_pos (show k = k from rfl)]
      unfold pushP CP
      by_cases q : n = 8
      · rw [if_pos q, if_pos q]
        show (if _ then _ else _) = _
        rw [if_pos (by omega)]
        exact congrArg τ (by omega)
      · rw [if_neg q, if_neg q]
        show (if _ then _ else _) = _
        rw [if_pos (by omega)]
        exact congrArg τ (by omega)
    · show InR ((if k = k then τ else r k) j)
      rw [if_pos (show k = k from rfl)]
      exact hτ j
    · show vp_updL s k (hS τ) k = hS (if k = k then τ else r k)
      rw [if_pos (show k = k from rfl)]
      unfold vp_updL
      rw [if_pos rfl]
  · obtain ⟨g1, g2, g3⟩ := h3 k (by omega)
    refine ⟨fun j hj => ?_, fun j => ?_, ?_⟩
    · show pushP n τ π (147 * ((if n = 8 then 8 else n + 1) - (d + 1) + k) + j) = (if k = d then τ else r k) j
      rw [if_neg e, ← g1 j hj]
      unfold pushP CP
      by_cases q : n = 8
      · rw [if_pos q, if_pos q]
        show (if _ then _ else if _ then _ else _) = _
        rw [if_neg (by omega), if_pos (by omega)]
        exact congrArg π (by omega)
      · rw [if_neg q, if_neg q]
        show (if _ then _ else _) = _
        rw [if_neg (by omega)]
        exact congrArg π (by omega)
    · show InR ((if k = d then τ else r k) j)
      rw [if_neg e]
      exact g2 j
    · show vp_updL s d (hS τ) k = hS (if k = d then τ else r k)
      rw [if_neg e]
      unfold vp_updL
      rw [if_neg e]
      exact g3
theorem u_421 : ∀ (d f : Nat) (b : Int) (σ : Nat → Int) (n e : Nat) (x : XVal) (y : MVal) (r : Nat → Nat → Int) (s : Nat → Int64), d < f → d ≤ 7 → UN d n π r s → St b σ π n e x y → ∃ x2, L_L_undone_421 L xs f (I ((d : Int) - 1)) x s = some ((1 : Int32), x2) := by
  intro d
  induction d with
  | zero =>
    intro f b σ n e x y r s hf hd hU hR
    obtain ⟨f, rfl⟩ : ∃ g, f = g + 1 := ⟨f - 1, by omega⟩
    refine ⟨x, ?_⟩
    rw [L_L_undone_421, brn_pos _ _ (by rw [lit_0, I_lt (by omega) (by omega) (by omega) (by omega)]; omega)]
  | succ d ih =>
    intro f b σ n e x y r s hf hd hU hR
    obtain ⟨f, rfl⟩ : ∃ g, f = g + 1 := ⟨f - 1, by omega⟩
    obtain ⟨h1, h2, h3⟩ := hU
    obtain ⟨x1, y1, σ1, z1, -, hσ1, R1⟩ := om_undo hR (by omega)
    obtain ⟨g1, g2, g3⟩ := h3 d (by omega)
    obtain ⟨y2, R2⟩ := St_cong (τ := r d) R1 g2 (fun j hj => by
      rw [hσ1 j hj, ← g1 j hj]
      exact congrArg π (by omega))
    obtain ⟨x3, y3, z3, R3⟩ := su_ok R2
    obtain ⟨x4, z4⟩ := ih f (b + 300) (r d) (n - 1) _ x3 y3 r s (by omega) (by omega) ⟨by omega, by omega, fun k hk => by
      obtain ⟨k1, k2, k3⟩ := h3 k (by omega)
      refine ⟨fun j hj => ?_, k2, k3⟩
      rw [← k1 j hj]
      exact congrArg π (by omega)⟩ R3
    have eu : F_L_undo x = some (I ((n - 1 : Nat) : Int), x1) := by
      unfold F_L_undo
      rw [z1, bnd_some, brn_pos _ _ rfl]
    have ecl : (I ((d : Nat) : Int)).toNatClampNeg = d := by rw [I_cl (by omega) (by omega)]; omega
    refine ⟨x4, ?_⟩
    rw [show (((d + 1 : Nat) : Int) - 1) = (d : Int) by omega, L_L_undone_421, brn_neg _ _ (by rw [lit_0, I_lt (by omega) (by omega) (by omega) (by omega)]; omega), eu, bnd_some, brn_neg _ _ (by rw [lit_0, I_lt (by omega) (by omega) (by omega) (by omega)]; omega), z3, bnd_some, grd_pos _ (by rw [I_inb (by omega) (by omega)]; omega), ecl, brn_pos _ _ (by show lg_cmp (hS (r d)) (s d) = 0; rw [g3]; exact lg_self _), show I (d : Int) + (-1) = I ((d : Int) - 1) by rw [m1, I_add]; rfl]
    exact z4
/-- after the change: what the law then does -/
theorem u_379 {r10 : Int32 → Int32 → XVal → (Nat → Int64) → Option (Int32 × XVal)} {d : Nat} (hd : d ≤ 7) (x4 : Int32) {F : Option (Int32 × XVal)} {b2 : Int} {s : Nat → Int64} (hr : ∀ k, InR (σ k)) (hs : s d = hS σ)
    (hF : ∃ v x' y', F = some (v, x') ∧ ((v < 0 ∧ St b2 σ π n e x' y') ∨ (0 ≤ v ∧ ∃ σ', St b2 σ' (pushP n σ π) (if n = 8 then 8 else n + 1) ((e + 1) % 8) x' y')))
    (h0 : ∀ x' y', St b2 σ π n e x' y' → ∃ x2, r10 (I d) (x4 + 1) x' s = some ((1 : Int32), x2))
    (h1 : ∀ x' y' σ', St b2 σ' (pushP n σ π) (if n = 8 then 8 else n + 1) ((e + 1) % 8) x' y' → ∃ x2, r10 (I ((d + 1 : Nat) : Int)) (x4 + 1) x' s = some ((1 : Int32), x2)) :
    ∃ x2, bnd F (fun o => J_L_undone_379 L xs r10 (I d) x4 o.1 o.2 s) = some ((1 : Int32), x2) := by
  obtain ⟨v, x', y', rfl, ⟨hv, R⟩ | ⟨hv, σ', R⟩⟩ := hF
  · obtain ⟨x3, y3, z3, R3⟩ := su_ok R
    obtain ⟨x2, z2⟩ := h0 x3 y3 R3
    have ecl : (I (d : Int)).toNatClampNeg = d := by rw [I_cl (by omega) (by omega)]; omega
    have nv : ¬ 0 ≤ v := fun h => Int32.not_lt.mpr h hv
    refine ⟨x2, ?_⟩
    rw [bnd_some]
    unfold J_L_undone_379 J_L_undone_397 J_L_undone_408
    rw [brn_neg _ _ nv, z3, bnd_some, grd_pos _ (by rw [I_inb (by omega) (by omega)]; omega), ecl, brn_pos _ _ (by show lg_cmp (hS σ) (s d) = 0; rw [hs]; exact lg_self _), brn_neg _ _ nv, show I (d : Int) + 0 = I (d : Int) by rw [lit_0, I_add, Int.add_zero]]
    exact z2
  · obtain ⟨x2, z2⟩ := h1 x' y' σ' R
    refine ⟨x2, ?_⟩
    rw [bnd_some]
    unfold J_L_undone_379 J_L_undone_397 J_L_undone_408
    rw [brn_pos _ _ hv, brn_pos _ _ hv, kk_I]
    exact z2
theorem u_10 (hL : L ≤ 260) : ∀ (q i f d : Nat) (b : Int) (σ π : Nat → Int) (n e : Nat) (x : XVal) (y : MVal) (r : Nat → Nat → Int) (s : Nat → Int64), i + q = 7 → q < f → d ≤ i → 0 ≤ b → b + 17000 * q < 600000 → UN d n π r s → St b σ π n e x y → ∃ x2, L_L_undone_10 L xs f (I d) (I i) x s = some ((1 : Int32), x2) := by
  intro q
  induction q with
  | zero =>
    intro i f d b σ π n e x y r s hi hf hd h0 h1 hU hR
    obtain ⟨f, rfl⟩ : ∃ g, f = g + 1 := ⟨f - 1, by omega⟩
    obtain ⟨x2, z2⟩ := u_421 (L := L) (xs := xs) d 8 b σ n e x y r s (by omega) (by omega) hU hR
    refine ⟨x2, ?_⟩
    rw [L_L_undone_10, brn_pos _ _ (by rw [lit_7, I_le (by omega) (by omega) (by omega) (by omega)]; omega), lit_1, I_sub]
    exact z2
  | succ q ih =>
    intro i f d b σ π n e x y r s hi hf hd h0 h1 hU hR
    obtain ⟨f, rfl⟩ : ∃ g, f = g + 1 := ⟨f - 1, by omega⟩
    obtain ⟨z, hz⟩ := l_cell hL xs (k := 30 + i) (by omega) (by omega)
    obtain ⟨c, hc, c0, c1⟩ := ushr_I z 1 (by decide)
    obtain ⟨u, hu, u0, u1⟩ := ushr_I (I c) 4 (by decide)
    obtain ⟨x1, y1, z1, R1⟩ := su_ok hR
    have hσ := R1.1.1.r
    have ecl : (I (d : Int)).toNatClampNeg = d := by rw [I_cl (by omega) (by omega)]; omega
    have hs : vp_updL s d (hS σ) d = hS σ := by unfold vp_updL; rw [if_pos rfl]
    have same : ∀ x' y', St (b + 17000) σ π n e x' y' → ∃ x2, L_L_undone_10 L xs f (I d) (I i + 1) x' (vp_updL s d (hS σ)) = some ((1 : Int32), x2) := by
      intro x' y' R
      rw [kk_I]
      refine ih (i + 1) f d (b + 17000) σ π n e x' y' r _ (by omega) (by omega) (by omega) (by omega) (by omega) ⟨hU.1, hU.2.1, fun k hk => ?_⟩ R
      obtain ⟨g1, g2, g3⟩ := hU.2.2 k hk
      refine ⟨g1, g2, ?_⟩
      unfold vp_updL
      rw [if_neg (by omega)]
      exact g3
    have more : ∀ x' y' σ', St (b + 17000) σ' (pushP n σ π) (if n = 8 then 8 else n + 1) ((e + 1) % 8) x' y' → ∃ x2, L_L_undone_10 L xs f (I ((d + 1 : Nat) : Int)) (I i + 1) x' (vp_updL s d (hS σ)) = some ((1 : Int32), x2) := by
      intro x' y' σ' R
      rw [kk_I]
      exact ih (i + 1) f (d + 1) (b + 17000) σ' (pushP n σ π) _ _ x' y' _ _ (by omega) (by omega) (by omega) (by omega) (by omega) (UN_push hU (by omega) hσ) R
    have go : ∀ {F : Option (Int32 × XVal)}, CH b σ π n e F → ∃ x2, bnd F (fun o => J_L_undone_379 L xs (L_L_undone_10 L xs f) (I d) (I i) o.1 o.2 (vp_updL s d (hS σ))) = some ((1 : Int32), x2) := fun h => u_379 (by omega) (I i) hσ hs (CH.mono2 h (by omega)) same more
    have got : ∃ x2, bnd (F_sg_undone (I c) (I u) x1) (fun o => J_L_undone_379 L xs (L_L_undone_10 L xs f) (I d) (I i) o.1 o.2 (vp_updL s d (hS σ))) = some ((1 : Int32), x2) := u_379 (by omega) (I i) hσ hs (ch_text R1 h0 (by omega) ⟨u0, u1⟩) same more
    rw [L_L_undone_10, brn_neg _ _ (by rw [lit_7, I_le (by omega) (by omega) (by omega) (by omega)]; omega), show F_L_cell L xs ((30 : Int32) + I i) = some z by rw [show (30 : Int32) = I 30 from rfl, I_add]; exact hz, bnd_some, z1, bnd_some, grd_pos _ (by rw [I_inb (by omega) (by omega)]; omega), ecl, hc, hu]
    dsimp only
    by_cases k0 : (I c - I c / (11 : Int32) * (11 : Int32)) = 0
    · rw [brn_pos _ _ k0]
      exact go (ch_house R1 h0 _ _ _)
    rw [brn_neg _ _ k0]
    by_cases k1 : (I c - I c / (11 : Int32) * (11 : Int32)) = 1
    · rw [brn_pos _ _ k1]
      exact go (ch_goAway R1 h0 _)
    rw [brn_neg _ _ k1]
    by_cases k2 : (I c - I c / (11 : Int32) * (11 : Int32)) = 2
    · rw [brn_pos _ _ k2]
      exact go (ch_block R1 h0 _)
    rw [brn_neg _ _ k2]
    by_cases k3 : (I c - I c / (11 : Int32) * (11 : Int32)) = 3
    · rw [brn_pos _ _ k3]
      exact go (ch_hall R1 h0 _ _ _)
    rw [brn_neg _ _ k3]
    by_cases k4 : (I c - I c / (11 : Int32) * (11 : Int32)) = 4
    · rw [brn_pos _ _ k4]
      exact go (ch_dropHall R1 h0 _)
    rw [brn_neg _ _ k4]
    by_cases k5 : (I c - I c / (11 : Int32) * (11 : Int32)) = 5
    · rw [brn_pos _ _ k5]
      exact go (ch_pass R1 h0 (by omega) _)
    rw [brn_neg _ _ k5]
    by_cases k6 : (I c - I c / (11 : Int32) * (11 : Int32)) = 6
    · rw [brn_pos _ _ k6]
      exact go (ch_ring R1 h0 (by omega) _ _ _)
    rw [brn_neg _ _ k6]
    by_cases k7 : (I c - I c / (11 : Int32) * (11 : Int32)) = 7
    · rw [brn_pos _ _ k7]
      exact go (ch_post R1 h0 _)
    rw [brn_neg _ _ k7]
    by_cases k8 : (I c - I c / (11 : Int32) * (11 : Int32)) = 8
    · rw [brn_pos _ _ k8]
      exact go (ch_dropPost R1 h0 _)
    rw [brn_neg _ _ k8]
    by_cases k9 : (I c - I c / (11 : Int32) * (11 : Int32)) = 9
    · rw [brn_pos _ _ k9]
      exact go (ch_tell R1 h0 _ _)
    rw [brn_neg _ _ k9]
    exact got
theorem undone_ok (hR : St b σ π n e x y) (h0 : 0 ≤ b) (h1 : b < 400000) (hL : L ≤ 260) : ∃ x2, F_L_undone L xs x = some ((1 : Int32), x2) := by
  unfold F_L_undone
  exact u_10 hL 7 0 8 0 b σ π n e x y (fun _ _ => 0) (fun _ => 0) (by omega) (by omega) (by omega) h0 (by omega) ⟨by omega, hR.2.2.1.2.2.2.2.1, fun k hk => by omega⟩ hR
end UND
theorem law_true (L : Nat) (xs : Nat → Int32) (hL : L ≤ 260) : F_L_law L xs = some (1 : Int32) := by
  obtain ⟨x, bl, σ, y, b, e0, ⟨π, n, e, hR, hd, hbl, h3, hh⟩, b0, b1, -, -⟩ := drawn_ok (xs := xs) hL
  have e1 : F_L_slept x = some (1 : Int32) := slept_ok hR.1.1 hR.1.2.2 hd (by omega)
  have e2 : F_L_rung L xs x = some (1 : Int32) := rung_ok hL hR.1.1 hR.1.2.2
  obtain ⟨x3, y3, e3, R3⟩ := looked_ok hR hd bl hbl
  obtain ⟨x4, y4, e4, R4⟩ := gone_ok (L := L) (xs := xs) R3 (by omega) hL hbl
  obtain ⟨x5, y5, e5, R5⟩ := lines_ok R4 (by omega) ⟨h3, hh⟩ hbl
  obtain ⟨x6, e6⟩ := undone_ok (L := L) (xs := xs) R5 b0 (by omega) hL
  unfold F_L_law
  rw [e0, bnd_some, e1, bnd_some, brn_neg _ _ (show ¬ ((1 : Int32) = 0) by decide), e2, bnd_some, brn_neg _ _ (show ¬ ((1 : Int32) = 0) by decide), e3, bnd_some, brn_neg _ _ (show ¬ ((1 : Int32) = 0) by decide), e4, bnd_some, brn_neg _ _ (show ¬ ((1 : Int32) = 0) by decide), e5, bnd_some, brn_neg _ _ (show ¬ ((1 : Int32) = 0) by decide), e6, bnd_some, brn_neg _ _ (show ¬ ((1 : Int32) = 0) by decide)]
