section LOK4
variable {b : Int} {σ : Nat → Int} {v : TVal} {x : XVal}
theorem lk_end (h : WF b σ) (T : TR σ (xT x)) (hd : DI σ) (bl : Nat → Int32) (w : Bool) (hw : w = true ↔ σ 8 ≠ 0) :
    J_L_looked_235 bl (I (σ 4)) (bI w) (I (canN σ)) x = bnd (G_isWell x) (fun o31 => brn (o31.2.1 = 0) none (some ((1 : Int32), o31.2.2))) := by
  have hq := h.q
  have hl := h.look
  have h7 := h.r 7
  have h7' := hd.2.2.1
  have q : 0 ≤ canN σ ∧ canN σ ≤ 64 := cnt_in (fun c => canB σ c) 64 0
  have fe : fitI σ 64 0 (canN σ) = -1 := fit_end σ 64 0
  have fx : F_L_fix (I (canN σ)) x = some (I (-13)) := by
    rw [l_fix h T (by omega)]
    unfold sp_fix
    rw [fe, if_pos (Or.inr (Or.inr rfl))]
    rfl
  have fy : F_L_fix (-1 : Int32) x = some (I (-13)) := by
    rw [show (-1 : Int32) = I (-1) from rfl, l_fix h T (by omega)]
    unfold sp_fix
    rw [if_pos (Or.inr (Or.inl (by decide)))]
    rfl
  have fz : F_L_fits (64 : Int32) x = some (I (-12)) := by
    rw [lit_64, l_fits h T (by omega)]
    unfold sp_fits
    rw [if_neg (by decide)]
    rfl
  have fp : F_L_postOf (I (σ 4)) (0 : Int32) x = some (I (-11)) := by
    rw [lit_0, l_postOf h T (by omega) (by omega)]
    unfold sp_postOf
    rw [if_neg (by omega)]
    rfl
  unfold J_L_looked_235 J_L_looked_252 J_L_looked_272 J_L_looked_334
  rw [fx, fy, fz, fp, l_acc9 h T, l_fitting h T, l_fitting h T]
  by_cases e : σ 8 = 0
  · have w0 : w = false := by
      cases w
      · rfl
      · exact absurd e (hw.mp rfl)
    have e7 : ¬ 0 < σ 7 := fun g => absurd (hd.2.2.2.1.mpr g) (by omega)
    subst w0
    rw [if_pos e, bnd_some, brn_pos _ _ (by decide), brn_pos _ _ (by decide), bnd_some, brn_pos _ _ (by decide), brn_pos _ _ (by decide), bnd_some, brn_pos _ _ (by decide), bnd_some, brn_pos _ _ (by decide), bnd_some, brn_pos _ _ (by decide), bnd_some, brn_pos _ _ (by decide), bnd_some, grd_pos _ rfl, brn_pos _ _ (by rw [lit_0, I_le (by omega) (by omega) (by omega) (by omega)]; omega), brn_pos _ _ (by decide)]
  · have w1 : w = true := hw.mpr e
    have e7 : 0 < σ 7 := hd.2.2.2.1.mp (by omega)
    subst w1
    rw [if_neg e, bnd_some, brn_neg _ _ (by decide), brn_pos _ _ rfl, bnd_some, brn_neg _ _ (by decide), brn_pos _ _ rfl, bnd_some, brn_pos _ _ (by decide), bnd_some, brn_pos _ _ (by decide), bnd_some, brn_pos _ _ (by decide), bnd_some, brn_pos _ _ (by decide), bnd_some, grd_pos _ rfl, brn_neg _ _ (by rw [lit_0, I_le (by omega) (by omega) (by omega) (by omega)]; omega), brn_pos _ _ (by decide)]
theorem tel_zero (h : WF b σ) (hd : DI σ) (e : σ 8 = 0) : telN σ = 0 := by
  have hq := h.q
  have go : ∀ r k : Nat, (k : Int) + r ≤ σ 4 → cnt (fun j => decide (0 ≤ σ (140 + 2 * j))) r k = 0 := by
    intro r
    induction r with
    | zero => intro k _; rfl
    | succ r ih =>
      intro k hk
      have g := hd.2.2.2.2 e k (by omega)
      show (if decide (0 ≤ σ (140 + 2 * k)) then 1 else 0) + cnt (fun j => decide (0 ≤ σ (140 + 2 * j))) r (k + 1) = 0
      rw [ih (k + 1) (by omega), decide_eq_false (by omega), if_neg (by decide)]
      rfl
  exact go (σ 4).toNat 0 (by omega)
theorem looked_at (h : WF b σ) (T : TR σ (xT x)) (hd : DI σ) (bl : Nat → Int32) (hbl : ∀ c, c < 64 → bl c = I (σ (13 + c))) :
    F_L_looked bl x = bnd (G_isWell x) (fun o31 => brn (o31.2.1 = 0) none (some ((1 : Int32), o31.2.2))) := by
  have hq := h.q
  have hl := h.look
  have tl : cnt (fun j => decide (0 ≤ σ (140 + 2 * j))) (σ 4).toNat 0 = telN σ := rfl
  have tq := cnt_in (fun j => decide (0 ≤ σ (140 + 2 * j))) (σ 4).toNat 0
  unfold F_L_looked
  rw [l_acc4 h T, bnd_some, grd_pos _ rfl, lit_0]
  have g := lk_11 h T bl (σ 4).toNat 0 5 0 (by omega) (by omega)
  rw [tl, Int.zero_add] at g
  refine Eq.trans g ?_
  have ge : ∀ (w : Bool), (w = true ↔ σ 8 ≠ 0) → J_L_looked_55 bl (bI w) (I (σ 4)) (I (telN σ)) x = bnd (G_isWell x) (fun o31 => brn (o31.2.1 = 0) none (some ((1 : Int32), o31.2.2))) := by
    intro w hw
    unfold J_L_looked_55
    refine Eq.trans (lk_63 h T bl hbl w hw (I (telN σ)) 64 0 65 (by omega) (by omega)) ?_
    rw [L_L_looked_63, brn_pos _ _ (by decide), l_acc5 h T, bnd_some, grd_pos _ rfl, brn_pos _ _ rfl, lk_end h T hd bl w hw]
    cases w
    · have e : σ 8 = 0 := by
        by_cases e : σ 8 = 0
        · exact e
        · exact absurd (hw.mpr e) (by decide)
      rw [tel_zero h hd e, brn_pos _ _ (by decide), brn_pos _ _ (by decide)]
    · rw [brn_neg _ _ (by decide)]
  rw [L_L_looked_11, brn_pos _ _ (Int32.le_refl _), l_acc10 h T, bnd_some, grd_pos _ rfl]
  by_cases e : σ 8 = 0
  · rw [brn_pos _ _ (by rw [lit_0, I_lt (by omega) (by omega) (by omega) (by omega)]; omega)]
    exact ge false ⟨fun g => absurd g (by decide), fun g => absurd e g⟩
  · rw [brn_neg _ _ (by rw [lit_0, I_lt (by omega) (by omega) (by omega) (by omega)]; omega)]
    exact ge true ⟨fun _ => e, fun _ => rfl⟩
end LOK4
theorem looked_ok {b : Int} {x : XVal} {y : MVal} {σ π : Nat → Int} {n e : Nat} (hR : St b σ π n e x y) (hd : DI σ) (bl : Nat → Int32) (hbl : ∀ c, c < 64 → bl c = I (σ (13 + c))) : ∃ x2 y2, F_L_looked bl x = some ((1 : Int32), x2) ∧ St b σ π n e x2 y2 := by
  obtain ⟨x2, y2, g, S⟩ := os_isWell hR
  refine ⟨x2, y2, ?_, S⟩
  rw [looked_at hR.1.1 hR.1.2.2 hd bl hbl, g, bnd_some, brn_neg _ _ (show ¬ ((1 : Int32) = 0) by decide)]
