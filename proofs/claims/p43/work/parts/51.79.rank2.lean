section RK2
variable {b : Int} {σ : Nat → Int} {v : TVal}
theorem x_atRank (h : WF b σ) (hb : b < 1000000) (T : TR σ v) {p : Int} (hp : InR p) : F_X2_atRank (I p) (I (σ 2)) (v.2 3) (v.2 4) = some (I (fIx (fun i => decide (rkN σ i = p)) (σ 2).toNat 0)) := by
  have hn := h.n
  have go : ∀ (r k f : Nat), (k : Int) + r = σ 2 → r < f → L_X2_atRank_2 (I p) (I (σ 2)) (v.2 3) (v.2 4) f (I k) = some (I (fIx (fun i => decide (rkN σ i = p)) r k)) := by
    intro r
    induction r with
    | zero =>
      intro k f hk hf
      obtain ⟨f, rfl⟩ : ∃ g, f = g + 1 := ⟨f - 1, by omega⟩
      rw [L_X2_atRank_2, fIx, brn_pos _ _ (by rw [I_le (by omega) (by omega) (by omega) (by omega)]; omega), m1]
    | succ r ih =>
      intro k f hk hf
      obtain ⟨f, rfl⟩ : ∃ g, f = g + 1 := ⟨f - 1, by omega⟩
      have rk := rk_in h (i := k) (by omega)
      rw [L_X2_atRank_2, fIx, brn_neg _ _ (by rw [I_le (by omega) (by omega) (by omega) (by omega)]; omega), x_rank h hb T (by omega), bnd_some]
      by_cases e : rkN σ k = p
      · rw [brn_pos _ _ (congrArg I e), decide_eq_true e]
        rfl
      · rw [brn_neg _ _ (by rw [I_eq (by omega) (by omega) (by omega) (by omega)]; exact e), decide_eq_false e, lit_1, I_add]
        exact ih (k + 1) f (by omega) (by omega)
  have := go (σ 2).toNat 0 100 (by omega) (by omega)
  unfold F_X2_atRank
  rw [lit_0]
  exact this
theorem m_rankL (h : WF b σ) (hb : b < 1000000) {p : Int} (hp : InR p) {j : Nat} (hj : (j : Int) < σ 2) (g : Int32 → Int32 → Int32 → Option (Int32 × Int32)) (d : Int32) : ∀ (r k f : Nat) (a : Int), (k : Int) + r = σ 2 → r < f → 0 ≤ a → a ≤ k → L_X12_ranked_44 (I p) (J σ) g f d (I j) (I a) (I k) 0 = if a + cnt (fun i => ahB σ i j) r k = p then g (I j) (I (j + 1)) 0 else g d (I (j + 1)) 0 := by
  have hn := h.n
  have c2 : (2 : Int32).toNatClampNeg = 2 := by decide
  intro r
  induction r with
  | zero =>
    intro k f a hk hf h1 h2
    obtain ⟨f, rfl⟩ : ∃ g, f = g + 1 := ⟨f - 1, by omega⟩
    rw [L_X12_ranked_44, cnt, Int.add_zero, grd_pos _ (by decide), c2, J_at, brn_pos _ _ (by rw [I_le (by omega) (by omega) (by omega) (by omega)]; omega)]
    unfold J_X12_ranked_92
    by_cases e : a = p
    · rw [brn_pos _ _ (congrArg I e), if_pos e, lit_1, I_add]
    · rw [brn_neg _ _ (by rw [I_eq (by omega) (by omega) (by omega) (by omega)]; exact e), if_neg e, lit_1, I_add]
  | succ r ih =>
    intro k f a hk hf h1 h2
    obtain ⟨f, rfl⟩ : ∃ g, f = g + 1 := ⟨f - 1, by omega⟩
    rw [L_X12_ranked_44, cnt, grd_pos _ (by decide), c2, J_at, brn_neg _ _ (by rw [I_le (by omega) (by omega) (by omega) (by omega)]; omega), m_ahead h hb (i := k) (by omega) hj, bnd_some]
    unfold J_X12_ranked_72
    cases hc : ahB σ k j
    · rw [brn_pos _ _ (by decide), show I a + 0 = I a from (by rw [lit_0, I_add, Int.add_zero]), lit_1, I_add]
      refine Eq.trans (ih (k + 1) f a (by omega) (by omega) h1 (by omega)) ?_
      simp
    · rw [brn_neg _ _ (by decide), lit_1, I_add, I_add]
      refine Eq.trans (ih (k + 1) f (a + 1) (by omega) (by omega) (by omega) (by omega)) ?_
      rw [show (if true = true then (1 : Int) else 0) = 1 from rfl, Int.add_assoc]
theorem m_rankO (h : WF b σ) (hb : b < 1000000) {p : Int} (hp : InR p) : ∀ (r k f : Nat) (d : Int), (k : Int) + r = σ 2 → r < f → L_X12_ranked_21 (I p) (J σ) f (I d) (I k) 0 = some (I (lIx (fun i => decide (rkN σ i = p)) r k d), I 0) := by
  have hn := h.n
  have c2 : (2 : Int32).toNatClampNeg = 2 := by decide
  intro r
  induction r with
  | zero =>
    intro k f d hk hf
    obtain ⟨f, rfl⟩ : ∃ g, f = g + 1 := ⟨f - 1, by omega⟩
    rw [L_X12_ranked_21, lIx, grd_pos _ (by decide), c2, J_at, brn_pos _ _ (by rw [I_le (by omega) (by omega) (by omega) (by omega)]; omega)]
    rfl
  | succ r ih =>
    intro k f d hk hf
    obtain ⟨f, rfl⟩ : ∃ g, f = g + 1 := ⟨f - 1, by omega⟩
    have e0 := m_rankL h hb hp (j := k) (by omega) (L_X12_ranked_21 (I p) (J σ) f) (I d) (σ 2).toNat 0 100 0 (by omega) (by omega) (by omega) (by omega)
    rw [Int.zero_add] at e0
    rw [L_X12_ranked_21, lIx, grd_pos _ (by decide), c2, J_at, brn_neg _ _ (by rw [I_le (by omega) (by omega) (by omega) (by omega)]; omega), brn_pos _ _ rfl]
    refine Eq.trans e0 ?_
    by_cases e : cnt (fun i => ahB σ i k) (σ 2).toNat 0 = p
    · have e' : rkN σ k = p := e
      rw [if_pos e, decide_eq_true e', if_pos rfl]
      exact ih (k + 1) f k (by omega) (by omega)
    · have e' : ¬ rkN σ k = p := e
      rw [if_neg e, decide_eq_false e', if_neg (by simp)]
      exact ih (k + 1) f d (by omega) (by omega)
theorem q_ranked (h : WF b σ) (hb : b < 1000000) (T : TR σ v) (a : Int32) (t : Int32) : QOK [(0, 0), (4, 1)] (F_X11_ranked a (v.1 6) (v.2 3) (v.2 4)) (F_X12_ranked a (J σ) t) := by
  obtain ⟨a, ha, rfl⟩ := I_ex a
  have hn := h.n
  have c2 : (2 : Int32).toNatClampNeg = 2 := by decide
  rw [T.1.2.2.2.2.2.2.1]
  unfold F_X11_ranked J_X11_ranked_22 F_X12_ranked J_X12_ranked_14
  rw [x_atRank h hb T ha, bnd_some]
  by_cases e1 : 0 ≤ a ∧ a < σ 2
  · obtain ⟨i, hi, hr⟩ := rk_onto h e1
    have hf : fIx (fun i => decide (rkN σ i = a)) (σ 2).toNat 0 = i := by
      rcases fIx_sp (fun i => decide (rkN σ i = a)) (σ 2).toNat 0 with ⟨-, g⟩ | ⟨j, g1, g2, g3, g4, -⟩
      · have := of_decide_eq_false (g i (by omega) (by omega))
        exact absurd hr this
      · have g3 := of_decide_eq_true g3
        rw [g4, rk_inj h (i := j) (j := i) (by omega) hi (by omega)]
    have hl : lIx (fun i => decide (rkN σ i = a)) (σ 2).toNat 0 0 = i := by
      rcases lIx_sp (fun i => decide (rkN σ i = a)) (σ 2).toNat 0 0 with ⟨-, g⟩ | ⟨j, g1, g2, g3, g4⟩
      · have := of_decide_eq_false (g i (by omega) (by omega))
        exact absurd hr this
      · have g3 := of_decide_eq_true g3
        rw [g4, rk_inj h (i := j) (j := i) (by omega) hi (by omega)]
    have g := m_rankO h hb ha (σ 2).toNat 0 100 0 (by omega) (by omega)
    rw [hl] at g
    rw [hf]
    refine QOK_ok i (by decide) ?_ ?_
    · rw [brn_neg _ _ (by rw [m1, I_eq (by omega) (by omega) (by omega) (by omega)]; omega), show F_X11_demandFound 1 = some 0 from x_dFt, bnd_some, brn_pos _ _ rfl]
    · rw [m_isHouse_p h ha e1, bnd_some, brn_neg _ _ (by decide)]
      exact g
  · have hf : fIx (fun i => decide (rkN σ i = a)) (σ 2).toNat 0 = -1 := by
      rcases fIx_sp (fun i => decide (rkN σ i = a)) (σ 2).toNat 0 with ⟨g, -⟩ | ⟨j, g1, g2, g3, g4, -⟩
      · exact g
      · have g3 := of_decide_eq_true g3
        have := rk_in h (i := j) (by omega)
        omega
    rw [hf]
    refine QOK_th 4 1 (by decide) (by decide) (v := 0) (v2 := 0) ?_ ?_
    · rw [brn_pos _ _ (by decide), show F_X11_demandFound 0 = some 4 from x_dFf, bnd_some, brn_neg _ _ (by decide)]
    · rw [m_isHouse_n h ha e1, bnd_some, brn_pos _ _ (by decide)]
      show L_X12_ranked_21 (I a) (J σ) (99 + 1) 0 0 1 = some (0, I 1)
      rw [L_X12_ranked_21, grd_pos _ (by decide), c2, J_at]
      by_cases e2 : σ 2 ≤ 0
      · rw [brn_pos _ _ (by rw [lit_0, I_le (by omega) (by omega) (by omega) (by omega)]; exact e2)]
        rfl
      · rw [brn_neg _ _ (by rw [lit_0, I_le (by omega) (by omega) (by omega) (by omega)]; exact e2), brn_neg _ _ (by decide)]
        rfl
end RK2
section OP6
variable {b : Int} {x : XVal} {y : MVal}
theorem op_ranked (hR : Rel b x y) (hb : b < 1000000) (p1 : Int32) : OPK [(0, 0), (4, 1)] b (G_ranked p1 x) (H_ranked p1 y) := by
  obtain ⟨σ, π, n, e, ⟨hw, hs, T⟩, -⟩ := id hR
  have := q_ranked hw hb T p1 (y.1 2)
  rw [← hs] at this
  exact OPK_q hR this
theorem op_character (hR : Rel b x y) (p1 : Int32) : OPK [(0, 0), (1, 1)] b (G_character p1 x) (H_character p1 y) := by
  obtain ⟨σ, π, n, e, -, -, -, -, -, ⟨m, m20, h38, h8, hr⟩⟩ := id hR
  have := q_character p1 m20 hr (y.1 2)
  unfold G_character H_character
  rw [h38, h8]
  exact OPK_q hR this
theorem op_isWellH (y : MVal) : H_isWell y = some (1, ((fun k => if k = 2 then 0 else y.1 k), y.2)) := rfl
end OP6
