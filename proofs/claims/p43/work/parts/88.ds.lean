/-! ===== a town as drawn, step by step ===== -/
def DS (b : Int) (σ : Nat → Int) (bl : Nat → Int32) (x : XVal) (y : MVal) (h : Nat) : Prop := ∃ (π : Nat → Int) (n e : Nat), St b σ π n e x y ∧ DI σ ∧ (∀ c : Nat, c < 64 → bl c = I (σ (13 + c))) ∧ σ 3 = h ∧ (∀ j : Nat, j < h → σ (127 + 3 * j) = j ∧ (0 ≤ σ (128 + 3 * j) ∧ σ (128 + 3 * j) ≤ 3) ∧ (4 ≤ σ (129 + 3 * j) ∧ σ (129 + 3 * j) ≤ 7))
theorem DS.fr {b b' : Int} {σ τ π : Nat → Int} {n e : Nat} {bl : Nat → Int32} {x x' : XVal} {y y' : MVal} {h : Nat} (hD : DS b σ bl x y h) (hh : h ≤ 4) (hS : St b' τ π n e x' y') (hI : DI τ) (hF : FR σ τ) : DS b' τ bl x' y' h := by
  obtain ⟨-, -, -, -, -, hb, h3, hr⟩ := hD
  refine ⟨π, n, e, hS, hI, fun c hc => by rw [hF _ (by omega)]; exact hb c hc, by rw [hF 3 (by omega)]; exact h3, fun j hj => ?_⟩
  rw [hF _ (by omega), hF _ (by omega), hF _ (by omega)]
  exact hr j hj
theorem l_refusal {x : XVal} {r : Int} (h0 : 0 < r) (h1 : r < 100) (e : x.1 30 = I r) : F_L_refusal (0 : Int32) x = some (I r) := by
  obtain ⟨d, -, ed⟩ := I_ex (x.1 31)
  have k : F_X11_refusal (0 : Int32) (I r) (I d) = some (0, I r) := by
    unfold F_X11_refusal F_X6_isGiven
    simp (disch := omega) only [brn_if, grd_if, ↓bnd_some, bnd_some, bnd_if, bnd_none, J_at, I_add, I_sub, I_mul, I_neg, lit_0, lit_1, lit_2, lit_3, lit_4, lit_5, lit_6, lit_7, lit_8, lit_9, lit_10, lit_11, lit_12, lit_13, lit_14, lit_20, lit_23, lit_24, lit_32, lit_33, lit_35, lit_40, lit_43, lit_45, lit_46, lit_47, lit_48, lit_49, lit_50, lit_57, lit_58, lit_59, lit_60, lit_61, lit_63, lit_64, lit_77, lit_95, lit_98, lit_99, lit_101, lit_104, lit_111, lit_112, lit_114, lit_116, lit_122, lit_127, lit_139, lit_147, lit_180, lit_255, lit_1000, lit_1029, I_lt, I_le, I_eq, I_cl, I_inb, if_pos, if_neg, eq_self, Bool.false_eq_true, ite_true, ite_false, Int.zero_add, Int.add_zero, x_dFt]
  unfold F_L_refusal G_refusal
  rw [e, ed, k]
  rfl
section DSS
variable {b : Int} {σ : Nat → Int} {bl : Nat → Int32} {x : XVal} {y : MVal} {h : Nat}
theorem s_pass (hD : DS b σ bl x y 3) (hb : 0 ≤ b) (hb2 : b < 800000) {a : Int} (h1 : 1 ≤ a) (h2 : a ≤ 99) : ∃ v x' y' σ', F_L_pass (I a) x = some (I v, x') ∧ 0 ≤ v ∧ v < 1000 ∧ DS (b + 300) σ' bl x' y' 3 ∧ σ' 2 = σ 2 ∧ σ' 4 = σ 4 := by
  obtain ⟨π, n, e, hS, hI, -⟩ := id hD
  obtain ⟨k, v, x', v2, y', t, σ', π', n', e', -, g1, g2, g3, g4, g5, g6⟩ := ox_pass hS hb (by omega) (a := a) (by omega)
  rcases g6 with ⟨-, -, -, -, -, g7⟩ | ⟨rfl, -, -, -, ⟨z, rfl, z0, z1⟩, g7⟩
  · exact absurd ⟨h1, h2⟩ g7
  · have q := DI_pass hS.1.1 hI (a := a)
    rw [← g7] at q
    refine ⟨z, x', y', σ', ?_, z0, z1, hD.fr (by omega) g5 q.1 q.2, q.2 2 (by omega), q.2 4 (by omega)⟩
    unfold F_L_pass
    rw [g1]
    rfl
theorem s_ring (hD : DS b σ bl x y 3) (hb : 0 ≤ b) (hb2 : b < 800000) {i : Nat} {s l : Int} (hi : (i : Int) < σ 2) (h1 : 0 ≤ s ∧ s ≤ 9) (h2 : 0 ≤ l ∧ l ≤ 9) (h3 : 0 < s + l) : ∃ v x' y' σ', F_L_ring (I i) (I s) (I l) x = some (I v, x') ∧ 0 ≤ v ∧ v < 1000 ∧ DS (b + 300) σ' bl x' y' 3 ∧ σ' 2 = σ 2 ∧ σ' 4 = σ 4 := by
  obtain ⟨π, n, e, hS, hI, -⟩ := id hD
  have hw := hS.1.1
  have hn := hw.n
  obtain ⟨k, v, x', v2, y', t, σ', π', n', e', -, g1, g2, g3, g4, g5, g6⟩ := ox_ring hS hb (by omega) (i := i) (x0 := s) (y0 := l) (by omega) (by omega) (by omega) (RI σ) (fun ρ j q1 _ _ => q1) (fun ρ j k q1 q2 _ q4 q5 => RI_pt hw ρ j k q1 q2 q4 q5) (fun k q1 q2 _ => RI_p0 hw hI hi k q1 q2) (fun ρ hρ => RI_p1 hw hI hi ρ hρ)
  rcases g6 with ⟨-, -, -, -, -, g7⟩ | ⟨rfl, -, -, -, ⟨z, rfl, z0, z1⟩, g7⟩
  · exact absurd ⟨hi, h1, h2, h3⟩ g7
  · refine ⟨z, x', y', σ', ?_, z0, z1, hD.fr (by omega) g5 g7.1 g7.2, g7.2 2 (by omega), g7.2 4 (by omega)⟩
    unfold F_L_ring
    rw [g1]
    rfl
theorem s_tell (hD : DS b σ bl x y 3) (hb : 0 ≤ b) (hb2 : b < 800000) {p t : Int} (h1 : 0 ≤ p ∧ p < σ 4) (h2 : 0 ≤ t ∧ t ≤ 14) : ∃ v x' y' σ', F_L_tell (I p) (I t) x = some (I v, x') ∧ (0 ≤ v ∧ v < 1000 ∨ v = -3) ∧ DS (b + 300) σ' bl x' y' 3 ∧ σ' 2 = σ 2 ∧ σ' 4 = σ 4 := by
  obtain ⟨π, n, e, hS, hI, -⟩ := id hD
  have hw := hS.1.1
  have hq := hw.q
  obtain ⟨k, v, x', v2, y', u, σ', π', n', e', -, g1, g2, g3, g4, g5, g6⟩ := ox_tell hS hb (a := p) (t := t) (by omega) (by omega)
  rcases g6 with ⟨-, g8, -, -, -, g7⟩ | ⟨rfl, -, -, -, ⟨z, rfl, z0, z1⟩, g7⟩
  · have gk := g7 h1 h2
    subst gk
    rw [g8] at g5
    refine ⟨-3, x', y', σ, ?_, Or.inr rfl, hD.fr (by omega) g5 hI (FR.rf _), rfl, rfl⟩
    unfold F_L_tell
    rw [g1]
    rfl
  · have q := DI_tell hw hI (p := p) (t := t) h1 g7.2.2.2
    rw [← g7.1] at q
    refine ⟨z, x', y', σ', ?_, Or.inl ⟨z0, z1⟩, hD.fr (by omega) g5 q.1 q.2, q.2 2 (by omega), q.2 4 (by omega)⟩
    unfold F_L_tell
    rw [g1]
    rfl
theorem s_post (hD : DS b σ bl x y 3) (hb : 0 ≤ b) (hb2 : b < 800000) {a : Int} (h1 : 0 ≤ a ∧ a ≤ 63) (h4 : σ 4 < 4) : ∃ v x' y' σ', F_L_post (I a) x = some (I v, x') ∧ DS (b + 300) σ' bl x' y' 3 ∧ σ' 2 = σ 2 ∧ ((0 ≤ v ∧ v < 1000 ∧ σ' 4 = σ 4 + 1) ∨ (v = -2 ∧ σ' 4 = σ 4 ∧ (x'.1 30 = I 2 ∨ x'.1 30 = I 7))) := by
  obtain ⟨π, n, e, hS, hI, hbl, h3, hr⟩ := id hD
  have hw := hS.1.1
  obtain ⟨k, v, x', v2, y', u, σ', π', n', e', -, g1, g2, g3, g4, g5, g6⟩ := ox_post hS hb (a := a) (by omega)
  rcases g6 with ⟨-, g8, -, -, -, g7⟩ | ⟨rfl, -, -, -, ⟨z, rfl, z0, z1⟩, g7⟩
  · obtain ⟨gk, g9⟩ := g7 h1 h4
    subst gk
    rw [g8] at g5
    refine ⟨-2, x', y', σ, ?_, hD.fr (by omega) g5 hI (FR.rf _), rfl, Or.inr ⟨rfl, rfl, g9⟩⟩
    unfold F_L_post
    rw [g1]
    rfl
  · have q := DI_post hw hI (a := a) h4
    rw [← g7.1] at q
    obtain ⟨q1, q2, q3⟩ := q
    have q4 : ∀ m : Nat, ((1 < m ∧ m < 4) ∨ (13 ≤ m ∧ m < 77) ∨ (127 ≤ m ∧ m < 139)) → σ' m = σ m := fun m hm => (q3 m (by omega)).trans (if_neg (by omega))
    refine ⟨z, x', y', σ', ?_, ⟨π', n', e', g5, q1, fun c hc => ?_, ?_, fun j hj => ?_⟩, ?_, Or.inl ⟨z0, z1, q2⟩⟩
    · unfold F_L_post
      rw [g1]
      rfl
    · rw [q4 _ (by omega)]
      exact hbl c hc
    · rw [q4 3 (by omega)]
      exact h3
    · rw [q4 _ (by omega), q4 _ (by omega), q4 _ (by omega)]
      exact hr j hj
    · exact q4 2 (by omega)
theorem s_house (hD : DS b σ bl x y 0) (hb : 0 ≤ b) (hb2 : b < 800000) {a f g : Int} (h1 : 0 ≤ a ∧ a ≤ 63) (h2 : 0 ≤ f ∧ f ≤ 23) (h3 : 0 ≤ g ∧ g ≤ 23) (h10 : σ 2 < 10) : ∃ v x' y' σ', F_L_house (I a) (I f) (I g) x = some (I v, x') ∧ DS (b + 300) σ' bl x' y' 0 ∧ σ' 4 = σ 4 ∧ ((0 ≤ v ∧ v < 1000 ∧ σ' 2 = σ 2 + 1) ∨ (v = -2 ∧ σ' 2 = σ 2 ∧ (x'.1 30 = I 2 ∨ x'.1 30 = I 3))) := by
  obtain ⟨π, n, e, hS, hI, hbl, h30, hr⟩ := id hD
  have hw := hS.1.1
  obtain ⟨k, v, x', v2, y', u, σ', π', n', e', -, g1, g2, g3, g4, g5, g6⟩ := ox_house hS hb (a := a) (f := f) (g := g) (by omega) (by omega) (by omega)
  rcases g6 with ⟨-, g8, -, -, -, g7⟩ | ⟨rfl, -, -, -, ⟨z, rfl, z0, z1⟩, g7⟩
  · obtain ⟨gk, g9⟩ := g7 h1 h2 h3 h10
    subst gk
    rw [g8] at g5
    refine ⟨-2, x', y', σ, ?_, hD.fr (by omega) g5 hI (FR.rf _), rfl, Or.inr ⟨rfl, rfl, g9⟩⟩
    unfold F_L_house
    rw [g1]
    rfl
  · have q := DI_house hw hI (a := a) (f := f) (g := g) h10
    rw [← g7.1] at q
    obtain ⟨q1, q2, q3⟩ := q
    refine ⟨z, x', y', σ', ?_, ⟨π', n', e', g5, q1, fun c hc => ?_, ?_, fun j hj => absurd hj (Nat.not_lt_zero _)⟩, q3 4 (by omega), Or.inl ⟨z0, z1, q2⟩⟩
    · unfold F_L_house
      rw [g1]
      rfl
    · rw [q3 _ (by omega)]
      exact hbl c hc
    · rw [q3 3 (by omega)]
      exact h30
theorem s_hall (hD : DS b σ bl x y h) (hb : 0 ≤ b) (hb2 : b < 800000) (hh : h < 3) {f l : Int} (h1 : 0 ≤ f ∧ f ≤ 3) (h2 : 4 ≤ l ∧ l ≤ 7) : ∃ x' y' σ', F_L_hall (I h) (I f) (I l) x = some (I h, x') ∧ DS (b + 300) σ' bl x' y' (h + 1) ∧ σ' 2 = σ 2 ∧ σ' 4 = σ 4 := by
  obtain ⟨π, n, e, hS, hI, hbl, h3, hr⟩ := id hD
  have hw := hS.1.1
  obtain ⟨k, v, x', v2, y', u, σ', π', n', e', -, g1, g2, g3, g4, g5, g6⟩ := ox_hall hS hb (a := h) (f := f) (g := l) (by omega) (by omega) (by omega)
  rcases g6 with ⟨-, -, -, -, -, g7⟩ | ⟨rfl, -, -, -, -, g7, g8, -⟩
  · exfalso
    refine g7 (by omega) (by omega) (by omega) (fun c c1 c2 => ?_)
    unfold lOn
    rcases lIx_sp (inL σ (8 * (h : Int) + c)) (σ 3).toNat 0 (-1) with ⟨q, -⟩ | ⟨j, -, j2, j3, -⟩
    · rw [q]
      omega
    · exfalso
      have hj := hr j (by omega)
      unfold inL at j3
      rw [Bool.and_eq_true] at j3
      have j4 := of_decide_eq_true j3.1
      rw [hj.1] at j4
      omega
  · have q := DI_hall hw hI (r := h) (f := f) (l := l) (by omega) h3
    rw [← g7] at q
    obtain ⟨q1, q2, q3, q4, q5, q6⟩ := q
    refine ⟨x', y', σ', ?_, ⟨π', n', e', g5, q1, fun c hc => ?_, ?_, fun j hj => ?_⟩, q6 2 (by omega) (by omega), q6 4 (by omega) (by omega)⟩
    · unfold F_L_hall
      rw [g1, g8, h3]
      rfl
    · rw [q6 _ (by omega) (by omega)]
      exact hbl c hc
    · rw [q2, h3]
      omega
    · by_cases e9 : j = h
      · subst e9
        rw [q3, q4, q5]
        exact ⟨rfl, h1, h2⟩
      · rw [q6 _ (by omega) (by omega), q6 _ (by omega) (by omega), q6 _ (by omega) (by omega)]
        exact hr j (by omega)
theorem s_block (hD : DS b σ bl x y 0) (hb : 0 ≤ b) (hb2 : b < 800000) (h20 : σ 2 = 0) {a : Int} (h1 : 0 ≤ a ∧ a ≤ 63) : ∃ x' y' σ', F_L_block (I a) x = some (I (1 - σ (13 + a.toNat)), x') ∧ DS (b + 300) σ' (upd bl a.toNat (I (1 - σ (13 + a.toNat)))) x' y' 0 ∧ σ' 2 = 0 ∧ σ' 4 = σ 4 := by
  obtain ⟨π, n, e, hS, hI, hbl, h3, hr⟩ := id hD
  have hw := hS.1.1
  have hk := hw.blk (c := a.toNat) (by omega)
  obtain ⟨k, v, x', v2, y', u, σ', π', n', e', -, g1, g2, g3, g4, g5, g6⟩ := ox_block hS hb (a := a) (by omega)
  rcases g6 with ⟨-, -, -, -, -, g7⟩ | ⟨rfl, -, -, -, -, g7, g8⟩
  · exfalso
    refine g7 h1 ?_
    have := hOn_in hw a
    omega
  · have q := DI_block hw hI (a := a) h1.1 h1.2
    rw [← g7] at q
    obtain ⟨q1, q2, q3⟩ := q
    have ev : (if blkB σ a = true then (0 : Int) else 1) = 1 - σ (13 + a.toNat) := by
      unfold blkB
      rcases hk with hk | hk <;> rw [hk] <;> rfl
    rw [ev] at g8
    refine ⟨x', y', σ', ?_, ⟨π', n', e', g5, q1, fun c hc => ?_, ?_, fun j hj => absurd hj (Nat.not_lt_zero _)⟩, by rw [q3 2 (by omega)]; exact h20, q3 4 (by omega)⟩
    · unfold F_L_block
      rw [g1, g8]
      rcases hk with hk | hk <;> rw [hk] <;> rfl
    · unfold upd
      by_cases e9 : c = a.toNat
      · rw [if_pos e9, e9, q2]
      · rw [if_neg e9, q3 _ (by omega)]
        exact hbl c hc
    · rw [q3 3 (by omega)]
      exact h3
end DSS
