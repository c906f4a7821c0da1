/-! ===== looked: what it stands on ===== -/
def sp_fitting (σ : Nat → Int) : Nat × Int := if σ 8 = 0 then (4, 0) else (0, canN σ)
theorem fit_at (σ : Nat → Int) : ∀ (d r k : Nat), canB σ ((k + d : Nat) : Int) = true → d < r → fitI σ r k (cnt (fun c => canB σ c) d k) = ((k + d : Nat) : Int) := by
  intro d
  induction d with
  | zero =>
    intro r k h hr
    obtain ⟨r, rfl⟩ : ∃ g, r = g + 1 := ⟨r - 1, by omega⟩
    rw [Nat.add_zero] at h ⊢
    show fitI σ (r + 1) k 0 = _
    rw [fitI, if_pos h, if_pos rfl]
    rfl
  | succ d ih =>
    intro r k h hr
    obtain ⟨r, rfl⟩ : ∃ g, r = g + 1 := ⟨r - 1, by omega⟩
    rw [show k + (d + 1) = k + 1 + d by omega] at h ⊢
    have e := ih r (k + 1) h (by omega)
    have q := cnt_in (fun c => canB σ c) d (k + 1)
    show fitI σ (r + 1) k ((if canB σ k then 1 else 0) + cnt (fun c => canB σ c) d (k + 1)) = _
    rw [fitI]
    cases hb : canB σ k
    · rw [if_neg (by decide), if_neg (by decide), Int.zero_add]
      exact e
    · rw [if_pos rfl, if_pos rfl, if_neg (by omega), show 1 + cnt (fun c => canB σ c) d (k + 1) - 1 = cnt (fun c => canB σ c) d (k + 1) by omega]
      exact e
theorem fit_end (σ : Nat → Int) : ∀ (r k : Nat), fitI σ r k (cnt (fun c => canB σ c) r k) = -1 := by
  intro r
  induction r with
  | zero => intro k; rfl
  | succ r ih =>
    intro k
    have q := cnt_in (fun c => canB σ c) r (k + 1)
    show fitI σ (r + 1) k ((if canB σ k then 1 else 0) + cnt (fun c => canB σ c) r (k + 1)) = _
    rw [fitI]
    cases hb : canB σ k
    · rw [if_neg (by decide), if_neg (by decide), Int.zero_add]
      exact ih (k + 1)
    · rw [if_pos rfl, if_pos rfl, if_neg (by omega), show 1 + cnt (fun c => canB σ c) r (k + 1) - 1 = cnt (fun c => canB σ c) r (k + 1) by omega]
      exact ih (k + 1)
section LOK
variable {b : Int} {σ : Nat → Int} {v : TVal} {x : XVal}
theorem v_fitting (h : WF b σ) (T : TR σ v) (a : Int32) : F_X11_fitting a (v.1 2) (v.1 8) (v.2 8) (v.2 9) (v.2 10) = some ((sp_fitting σ).1, I (sp_fitting σ).2) := by
  have hl := h.look
  rw [T.1.2.2.1, T.1.2.2.2.2.2.2.2.2]
  unfold F_X11_fitting F_X9_hasPrank
  rw [x_canN h T.a8 T.a9 T.a10, x_around h T]
  by_cases e1 : σ 8 = 0
  · refine X_th 4 (by unfold sp_fitting; rw [if_pos e1]) ?_
    rw [brn_pos _ _ (by rw [e1]; rfl), bnd_some, show F_X11_demandFound 0 = some 4 from x_dFf, bnd_some, brn_neg _ _ (by decide)]
    rfl
  · refine X_ok (canN σ) (by unfold sp_fitting; rw [if_neg e1]) ?_
    rw [brn_neg _ _ (by rw [m1, I_eq (by omega) (by omega) (by omega) (by omega)]; omega), bnd_some, show F_X11_demandFound 1 = some 0 from x_dFt, bnd_some, brn_pos _ _ rfl]
    unfold brn
    split <;> rfl
theorem l_fitting (h : WF b σ) (T : TR σ (xT x)) (a : Int32) : F_L_fitting a x = some (I (if σ 8 = 0 then -13 else canN σ)) := by
  unfold F_L_fitting G_fitting
  rw [show F_X11_fitting a (x.1 3) (x.1 9) (x.2.1 8) (x.2.1 9) (x.2.1 10) = _ from v_fitting (v := xT x) h T a, bnd_some, bnd_some]
  unfold sp_fitting
  split <;> rfl
theorem l_post0 (h : WF b σ) (T : TR σ (xT x)) {j : Nat} (hj : (j : Int) < σ 4) : F_L_postOf (I j) (0 : Int32) x = some (I (σ (139 + 2 * j))) := by
  have hq := h.q
  rw [lit_0, l_postOf h T (by omega) (by omega)]
  unfold sp_postOf
  rw [if_pos (by omega), if_pos (by omega), if_pos rfl, Int.toNat_natCast]
  rfl
theorem l_post1 (h : WF b σ) (T : TR σ (xT x)) {j : Nat} (hj : (j : Int) < σ 4) : F_L_postOf (I j) (1 : Int32) x = some (I (if σ (140 + 2 * j) = -1 then -13 else σ (140 + 2 * j))) := by
  have hq := h.q
  rw [lit_1, l_postOf h T (by omega) (by omega)]
  unfold sp_postOf
  rw [if_pos (by omega), if_pos (by omega), if_neg (by decide), Int.toNat_natCast]
  split <;> rfl
theorem lk_87 (h : WF b σ) (T : TR σ (xT x)) (bl : Nat → Int32) (r63 : Int32 → Int32 → Int32 → Int32 → Int32 → XVal → Option (Int32 × XVal)) (x3 x4 x5 : Int32) {c : Int} (c0 : 0 ≤ c) (c1 : c ≤ 63) : ∀ (r k f : Nat) (fl : Bool), (k : Int) + r = σ 4 → r < f →
    L_L_looked_87 bl r63 f (I (σ 4)) x3 x4 x5 (I c) (bI fl) (I k) x = L_L_looked_87 bl r63 1 (I (σ 4)) x3 x4 x5 (I c) (bI (fl && allB (agB σ c) r k)) (I (σ 4)) x := by
  have hq := h.q
  intro r
  induction r with
  | zero =>
    intro k f fl hk hf
    obtain ⟨f, rfl⟩ : ∃ g, f = g + 1 := ⟨f - 1, by omega⟩
    rw [show (fl && allB (agB σ c) 0 k) = fl from Bool.and_true fl, show (k : Int) = σ 4 by omega, L_L_looked_87, L_L_looked_87, brn_pos _ _ (Int32.le_refl _), brn_pos _ _ (Int32.le_refl _)]
  | succ r ih =>
    intro k f fl hk hf
    obtain ⟨f, rfl⟩ : ∃ g, f = g + 1 := ⟨f - 1, by omega⟩
    have hki : (k : Int) < σ 4 := by omega
    have hp := h.post hki
    have fa := far_in c0 c1 hp.1.1 hp.1.2
    rw [L_L_looked_87, brn_neg _ _ (by rw [I_le (by omega) (by omega) (by omega) (by omega)]; omega), l_post1 h T hki, bnd_some]
    unfold J_L_looked_131 J_L_looked_135 J_L_looked_136
    rw [kk_I, show allB (agB σ c) (r + 1) k = (agB σ c k && allB (agB σ c) r (k + 1)) from rfl]
    cases fl
    · rw [brn_pos _ _ (by rw [bI_f]; rfl), show (0 : Int32) = bI false from by decide, ih (k + 1) f false (by omega) (by omega), Bool.false_and, Bool.false_and]
    · rw [brn_neg _ _ (by rw [bI_t]; decide), Bool.true_and]
      by_cases e1 : σ (140 + 2 * k) = -1
      · have ea : agB σ c k = true := by
          unfold agB
          rw [decide_eq_true (show σ (140 + 2 * k) < 0 by omega), Bool.true_or]
        rw [if_pos e1, brn_pos _ _ (by decide), show (1 : Int32) = bI true from by decide, ih (k + 1) f true (by omega) (by omega), ea]
      · rw [if_neg e1, brn_neg _ _ (by rw [show (-13 : Int32) = I (-13) from rfl, I_eq (by omega) (by omega) (by omega) (by omega)]; omega), l_post0 h T hki, bnd_some, l_far c0 c1 hp.1.1 hp.1.2, bnd_some]
        have eb : agB σ c k = decide (far c (σ (139 + 2 * k)) = σ (140 + 2 * k)) := by
          unfold agB
          rw [decide_eq_false (show ¬ σ (140 + 2 * k) < 0 by omega), Bool.false_or]
        by_cases e2 : far c (σ (139 + 2 * k)) = σ (140 + 2 * k)
        · rw [decide_eq_true e2] at eb
          rw [brn_pos _ _ (by rw [I_eq (by omega) (by omega) (by omega) (by omega)]; exact e2), show (1 : Int32) = bI true from by decide, ih (k + 1) f true (by omega) (by omega), eb]
        · rw [decide_eq_false e2] at eb
          rw [brn_neg _ _ (by rw [I_eq (by omega) (by omega) (by omega) (by omega)]; exact e2), show (0 : Int32) = bI false from by decide, ih (k + 1) f false (by omega) (by omega), eb, Bool.false_and]
end LOK
