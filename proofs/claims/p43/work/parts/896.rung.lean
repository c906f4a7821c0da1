/-! ===== rung ===== -/
section RNG
variable {b : Int} {σ : Nat → Int} {x : XVal} {L : Nat} {xs : Nat → Int32}
theorem l_echo1 (h : WF b σ) (T : TR σ (xT x)) {i j : Nat} (hi : (i : Int) < σ 2) (hj : (j : Int) < σ 2) {u : Int} (h1 : 0 ≤ u) (h2 : u ≤ 9) : F_L_echo (I i) (I j) (I u) x = some (I (if inH σ i j = true then shA σ i j u else -13)) := by
  have hn := h.n
  rw [l_echo h T (by omega) (by omega) (by omega)]
  unfold sp_echo
  rw [if_pos (by omega), if_pos (by omega), if_pos (by omega), Int.toNat_natCast, Int.toNat_natCast]
  cases inH σ i j <;> rfl
theorem rg_95 (h : WF b σ) (T : TR σ (xT x)) (r8 : Int32 → Int32 → Option Int32) (x3 x6 x9 : Int32) {i : Nat} {u w : Int} (hi : (i : Int) < σ 2) (h1 : 0 ≤ u) (h2 : u ≤ 9) (h3 : 0 ≤ w) (h4 : w ≤ 9) : ∀ (r k f : Nat) (c : Int), (k : Int) + r = σ 2 → r < f →
    L_L_rung_95 L xs x r8 f (I (σ 2)) x3 (I i) x6 (I u) (I w) x9 (I c) (I k) = L_L_rung_95 L xs x r8 1 (I (σ 2)) x3 (I i) x6 (I u) (I w) x9 (I (c + cnt (fun j => ecB σ i j u w) r k)) (I (σ 2)) := by
  have hn := h.n
  intro r
  induction r with
  | zero =>
    intro k f c hk hf
    obtain ⟨f, rfl⟩ : ∃ g, f = g + 1 := ⟨f - 1, by omega⟩
    rw [show c + cnt (fun j => ecB σ i j u w) 0 k = c from Int.add_zero c, show (k : Int) = σ 2 by omega, L_L_rung_95, L_L_rung_95, brn_pos _ _ (Int32.le_refl _), brn_pos _ _ (Int32.le_refl _)]
  | succ r ih =>
    intro k f c hk hf
    obtain ⟨f, rfl⟩ : ∃ g, f = g + 1 := ⟨f - 1, by omega⟩
    have hki : (k : Int) < σ 2 := by omega
    have ci := h.house hi
    have ck := h.house hki
    have fa := far_in ci.1.1 ci.1.2 ck.1.1 ck.1.2
    have sa := shA_in h hi hki h1
    have el : (if (0 : Int32) < I u - I (far (σ (77 + 5 * i)) (σ (77 + 5 * k))) then I u - I (far (σ (77 + 5 * i)) (σ (77 + 5 * k))) else (0 : Int32)) = I (shA σ i k u) := by
      unfold shA
      rw [I_sub, lit_0]
      by_cases q : 0 < u - far (σ (77 + 5 * i)) (σ (77 + 5 * k))
      · rw [if_pos (by rw [I_lt (by omega) (by omega) (by omega) (by omega)]; exact q), if_pos q]
      · rw [if_neg (by rw [I_lt (by omega) (by omega) (by omega) (by omega)]; exact q), if_neg q]
    rw [L_L_rung_95, brn_neg _ _ (by rw [I_le (by omega) (by omega) (by omega) (by omega)]; omega), l_inH h T hi hki, bnd_some, l_of0 h T hi, bnd_some, l_of0 h T hki, bnd_some, l_far ci.1.1 ci.1.2 ck.1.1 ck.1.2, bnd_some, el, I_add]
    unfold J_L_rung_156 J_L_rung_157 J_L_rung_182
    rw [l_echo1 h T hi hki h1 h2, bnd_some, bnd_some, kk_I, show I c + (0 : Int32) = I (c + 0) by rw [lit_0, I_add], show I c + (1 : Int32) = I (c + 1) by rw [lit_1, I_add]]
    have ee : ecB σ i k u w = (inH σ i k && decide (0 < shA σ i k u + w)) := rfl
    have step : cnt (fun j => ecB σ i j u w) (r + 1) k = (if ecB σ i k u w then 1 else 0) + cnt (fun j => ecB σ i j u w) r (k + 1) := rfl
    cases hb : inH σ i k
    · rw [hb] at ee
      rw [ee] at step
      rw [if_neg (by decide), if_neg (by decide), brn_pos _ _ (by decide), brn_pos _ _ (by decide), brn_pos _ _ (by decide), ih (k + 1) f (c + 0) (by omega) (by omega), step]
      show _ = L_L_rung_95 L xs x r8 1 (I (σ 2)) x3 (I i) x6 (I u) (I w) x9 (I (c + (0 + cnt (fun j => ecB σ i j u w) r (k + 1)))) (I (σ 2))
      rw [show c + 0 + cnt (fun j => ecB σ i j u w) r (k + 1) = c + (0 + cnt (fun j => ecB σ i j u w) r (k + 1)) by omega]
    · rw [hb, Bool.true_and] at ee
      rw [if_pos rfl, if_pos rfl, brn_neg _ _ (by decide)]
      by_cases q : shA σ i k u + w ≤ 0
      · rw [decide_eq_false (by omega)] at ee
        rw [ee] at step
        rw [brn_pos _ _ (by rw [lit_0, I_le (by omega) (by omega) (by omega) (by omega)]; exact q), brn_neg _ _ (by decide), brn_pos _ _ rfl, ih (k + 1) f (c + 0) (by omega) (by omega), step]
        show _ = L_L_rung_95 L xs x r8 1 (I (σ 2)) x3 (I i) x6 (I u) (I w) x9 (I (c + (0 + cnt (fun j => ecB σ i j u w) r (k + 1)))) (I (σ 2))
        rw [show c + 0 + cnt (fun j => ecB σ i j u w) r (k + 1) = c + (0 + cnt (fun j => ecB σ i j u w) r (k + 1)) by omega]
      · rw [decide_eq_true (by omega)] at ee
        rw [ee] at step
        rw [brn_neg _ _ (by rw [lit_0, I_le (by omega) (by omega) (by omega) (by omega)]; exact q), brn_neg _ _ (by decide), brn_pos _ _ rfl, ih (k + 1) f (c + 1) (by omega) (by omega), step]
        show _ = L_L_rung_95 L xs x r8 1 (I (σ 2)) x3 (I i) x6 (I u) (I w) x9 (I (c + (1 + cnt (fun j => ecB σ i j u w) r (k + 1)))) (I (σ 2))
        rw [show c + 1 + cnt (fun j => ecB σ i j u w) r (k + 1) = c + (1 + cnt (fun j => ecB σ i j u w) r (k + 1)) by omega]
theorem rg_one (h : WF b σ) (T : TR σ (xT x)) (r8 : Int32 → Int32 → Option Int32) {k : Nat} {i : Nat} {u w t : Int} (hi : (i : Int) < σ 2) (h1 : 0 ≤ u) (h2 : u ≤ 9) (h3 : 0 ≤ w) (h4 : w ≤ 9) (h5 : 0 ≤ t) (h6 : t ≤ 23) (g : Int) (hg : g = if u + w ≤ 0 then 0 else 1) : J_L_rung_87 L xs x r8 (I g) (I (σ 2)) (I k) (I i) (I t) (I u) (I w) = r8 (I (σ 2)) (I ((k + 1 : Nat) : Int)) := by
  have hn := h.n
  have hr : 0 ≤ hrN σ i u w ∧ hrN σ i u w ≤ (σ 2).toNat := cnt_in _ _ _
  unfold J_L_rung_87
  rw [lit_0, lit_1]
  have e := rg_95 (L := L) (xs := xs) h T r8 (I k) (I t) (I g) hi h1 h2 h3 h4 (σ 2).toNat 0 11 1 (by omega) (by omega)
  refine Eq.trans e ?_
  rw [show cnt (fun j => ecB σ i j u w) (σ 2).toNat 0 = hrN σ i u w from rfl, L_L_rung_95, brn_pos _ _ (Int32.le_refl _), l_classOf h T (by omega) (by omega) (by omega) (by omega), bnd_some]
  unfold J_L_rung_227 J_L_rung_252
  rw [l_heard h T (by omega) (by omega) (by omega), bnd_some, kk_I]
  unfold sp_classOf sp_heard
  by_cases q : u + w ≤ 0
  · rw [if_pos q] at hg
    subst hg
    rw [brn_pos _ _ (by decide), if_pos (by omega), if_neg (by omega), brn_pos _ _ (by decide), brn_pos _ _ (by decide), if_pos (by omega), if_neg (by omega), brn_pos _ _ (by decide)]
  · rw [if_neg q] at hg
    subst hg
    rw [brn_neg _ _ (by decide), l_kind h T hi h5 h6 h1 h2 h3 h4 (by omega), bnd_some, if_pos (by omega), if_pos (by omega), if_pos (by omega), Int.toNat_natCast, brn_pos _ _ (show I (rc (0, kd σ i t u w)) = I (kd σ i t u w) from rfl), brn_neg _ _ (by decide), if_pos (by omega), if_pos (by omega), brn_pos _ _ (show I (rc (0, 1 + hrN σ i u w)) = I (1 + hrN σ i u w) from rfl)]
theorem rg_263 (h : WF b σ) (T : TR σ (xT x)) : J_L_rung_263 L xs x (I (σ 2)) = some 1 := by
  have hn := h.n
  have e336 : J_L_rung_336 L xs x (I (σ 2)) = some 1 := by
    unfold J_L_rung_336
    rw [lit_0, l_heard h T (by omega) (by omega) (by omega), bnd_some]
    unfold sp_heard
    rw [if_neg (by omega), brn_pos _ _ (by decide)]
  unfold J_L_rung_263
  rw [show (24 : Int32) = I 24 from rfl, show (10 : Int32) = I 10 from rfl, show (1 : Int32) = I 1 from rfl, show (0 : Int32) = I 0 from rfl, l_classOf h T (by omega) (by omega) (by omega) (by omega), bnd_some, show rc (sp_classOf σ (σ 2) 24 10 10) = -11 by unfold sp_classOf; rw [if_neg (by omega)]; rfl, brn_pos _ _ (by decide), e336]
  by_cases e : σ 2 = 0
  · rw [brn_pos _ _ (by rw [e])]
    rfl
  · rw [brn_neg _ _ (by rw [I_eq (by omega) (by omega) (by omega) (by omega)]; exact e), l_classOf h T (by omega) (by omega) (by omega) (by omega), bnd_some, show rc (sp_classOf σ 0 24 1 0) = -12 by unfold sp_classOf; rw [if_pos (by omega), if_pos (by omega), if_neg (by omega)]; rfl, brn_pos _ _ (by decide), l_echo h T (by omega) (by omega) (by omega), bnd_some, show rc (sp_echo σ 0 (σ 2) 10) = -11 by unfold sp_echo; rw [if_pos (by omega), if_neg (by omega)]; rfl, brn_pos _ _ (by decide), l_echo h T (by omega) (by omega) (by omega), bnd_some, show rc (sp_echo σ 0 0 10) = -12 by unfold sp_echo; rw [if_pos (by omega), if_pos (by omega), if_neg (by omega)]; rfl, brn_pos _ _ (by decide), l_heard h T (by omega) (by omega) (by omega), bnd_some, show rc (sp_heard σ 0 10 0) = -12 by unfold sp_heard; rw [if_pos (by omega), if_neg (by omega)]; rfl, brn_pos _ _ (by decide)]
    rfl
theorem rg_8 (hL : L ≤ 260) (h : WF b σ) (T : TR σ (xT x)) : ∀ (r k f : Nat), k + r = 5 → r < f → L_L_rung_8 L xs x f (I (σ 2)) (I k) = some 1 := by
  have hn := h.n
  intro r
  induction r with
  | zero =>
    intro k f hk hf
    obtain ⟨f, rfl⟩ : ∃ g, f = g + 1 := ⟨f - 1, by omega⟩
    rw [L_L_rung_8, brn_pos _ _ (by rw [lit_5, I_le (by omega) (by omega) (by omega) (by omega)]; omega)]
    exact rg_263 h T
  | succ r ih =>
    intro k f hk hf
    obtain ⟨f, rfl⟩ : ∃ g, f = g + 1 := ⟨f - 1, by omega⟩
    rw [L_L_rung_8, brn_neg _ _ (by rw [lit_5, I_le (by omega) (by omega) (by omega) (by omega)]; omega)]
    by_cases e : σ 2 ≤ 0
    · rw [brn_pos _ _ (by rw [lit_0, I_le (by omega) (by omega) (by omega) (by omega)]; exact e)]
      exact rg_263 h T
    · obtain ⟨z, hz⟩ := cell_sum (L := L) (xs := xs) hL (c := 24) (k := k) (by omega) (by omega)
      obtain ⟨a, ha, a0, a1⟩ := ushr_I z 1 (by decide)
      obtain ⟨c4, hc4, p0, p1⟩ := ushr_I (I a) 4 (by decide)
      obtain ⟨c9, hc9, q0, q1⟩ := ushr_I (I a) 9 (by decide)
      obtain ⟨c13, hc13, r0, r1⟩ := ushr_I (I a) 13 (by decide)
      have i0 := Int.emod_nonneg a (show σ 2 ≠ 0 by omega)
      have i1 := Int.emod_lt_of_pos a (show 0 < σ 2 by omega)
      obtain ⟨i, hi⟩ := Int.eq_ofNat_of_zero_le i0
      rw [brn_neg _ _ (by rw [lit_0, I_le (by omega) (by omega) (by omega) (by omega)]; exact e), show (24 : Int32) = I ((24 : Nat) : Int) from rfl, hz, bnd_some, grd_pos _ (by rw [lit_0, I_eq (by omega) (by omega) (by omega) (by omega)]; omega), ha, hc4, hc9, hc13, I_rem a0 a1 (by omega) (by omega), hi, I_rem p0 p1 (by omega) (by omega), show (10 : Int32) = I 10 from rfl, I_rem q0 q1 (by omega) (by omega)]
      have fin : ∀ m : Int, m = 10 ∨ m = 2 → J_L_rung_71 L xs x (L_L_rung_8 L xs x f) (I m) (I c13) (I (σ 2)) (I k) (I i) (I (c4 % ((24 : Nat) : Int))) (I (c9 % 10)) = some 1 := by
        intro m hm
        have w0 : 0 ≤ c13 % m ∧ c13 % m ≤ 9 := by rcases hm with rfl | rfl <;> omega
        unfold J_L_rung_71
        rw [grd_pos _ (by rw [lit_0, I_eq (by omega) (by omega) (by omega) (by omega)]; omega), I_rem r0 r1 (by omega) (by omega), I_add]
        by_cases q : c9 % 10 + c13 % m ≤ 0
        · rw [brn_pos _ _ (by rw [lit_0, I_le (by omega) (by omega) (by omega) (by omega)]; exact q)]
          refine Eq.trans (rg_one h T (L_L_rung_8 L xs x f) (k := k) (i := i) (u := c9 % 10) (w := c13 % m) (t := c4 % ((24 : Nat) : Int)) (by omega) (by omega) (by omega) (by omega) (by omega) (by omega) (by omega) 0 (by rw [if_pos q])) ?_
          exact ih (k + 1) f (by omega) (by omega)
        · rw [brn_neg _ _ (by rw [lit_0, I_le (by omega) (by omega) (by omega) (by omega)]; exact q)]
          refine Eq.trans (rg_one h T (L_L_rung_8 L xs x f) (k := k) (i := i) (u := c9 % 10) (w := c13 % m) (t := c4 % ((24 : Nat) : Int)) (by omega) (by omega) (by omega) (by omega) (by omega) (by omega) (by omega) 1 (by rw [if_neg q])) ?_
          exact ih (k + 1) f (by omega) (by omega)
      by_cases e2 : I (k : Int) - I (k : Int) / (2 : Int32) * (2 : Int32) = 0
      · rw [brn_pos _ _ e2]
        exact fin 10 (Or.inl rfl)
      · rw [brn_neg _ _ e2]
        exact fin 2 (Or.inr rfl)
theorem rung_ok (hL : L ≤ 260) (h : WF b σ) (T : TR σ (xT x)) : F_L_rung L xs x = some 1 := by
  unfold F_L_rung
  rw [l_acc2 h T, bnd_some, grd_pos _ rfl, lit_0]
  exact rg_8 hL h T 5 0 6 (by omega) (by omega)
end RNG
