theorem cnt_snoc (p : Nat → Bool) : ∀ r k, cnt p (r + 1) k = cnt p r k + (if p (k + r) then 1 else 0) := by
  intro r
  induction r with
  | zero => intro k; show (if p k then 1 else 0) + 0 = 0 + (if p (k + 0) then 1 else 0); rw [Nat.add_zero]; omega
  | succ r ih =>
    intro k
    show (if p k then 1 else 0) + cnt p (r + 1) (k + 1) = ((if p k then 1 else 0) + cnt p r (k + 1)) + (if p (k + (r + 1)) then 1 else 0)
    rw [ih (k + 1), show k + 1 + r = k + (r + 1) by omega]
    omega
section LOK3
variable {b : Int} {σ : Nat → Int} {v : TVal} {x : XVal}
theorem lk_cell (h : WF b σ) (T : TR σ (xT x)) (bl : Nat → Int32) (r63 : Int32 → Int32 → Int32 → Int32 → Int32 → XVal → Option (Int32 × XVal)) (w : Bool) (hw : w = true ↔ σ 8 ≠ 0) (x3 : Int32) {c : Nat} (hc : c < 64) :
    J_L_looked_82 bl r63 (bI (!blkB σ c)) (I (σ 4)) x3 (bI w) (I (cnt (fun c => canB σ c) c 0)) (I c) x = r63 (I (σ 4)) x3 (bI w) (I (cnt (fun c => canB σ c) (c + 1) 0)) (I c + 1) x := by
  have hq := h.q
  have q := cnt_in (fun c => canB σ c) c 0
  have s : cnt (fun c => canB σ c) (c + 1) 0 = cnt (fun c => canB σ c) c 0 + (if canB σ c then 1 else 0) := by
    have := cnt_snoc (fun c => canB σ c) c 0
    rwa [Nat.zero_add] at this
  unfold J_L_looked_82
  rw [show (0 : Int32) = I ((0 : Nat) : Int) from rfl, lk_87 h T bl r63 x3 (bI w) _ (by omega) (by omega) (σ 4).toNat 0 5 (!blkB σ c) (by omega) (by omega), show (!blkB σ (c : Int) && allB (agB σ c) (σ 4).toNat 0) = canB σ c from rfl, L_L_looked_87, brn_pos _ _ (Int32.le_refl _), l_fits h T (by omega), bnd_some]
  unfold sp_fits J_L_looked_170 J_L_looked_196 J_L_looked_208
  rw [if_pos ⟨by omega, by omega⟩]
  by_cases e : σ 8 = 0
  · have w0 : w = false := by
      cases w
      · rfl
      · exact absurd e (hw.mp rfl)
    subst w0
    rw [if_pos e]
    cases hcb : canB σ c
    · rw [hcb, if_neg (by decide)] at s
      rw [brn_pos _ _ (by decide), brn_pos _ _ (by decide), brn_pos _ _ (by decide), brn_pos _ _ (by decide), s, ← I_add]
      rfl
    · rw [hcb, if_pos rfl] at s
      rw [brn_pos _ _ (by decide), brn_pos _ _ (by decide), brn_neg _ _ (by decide), brn_pos _ _ (by decide), brn_neg _ _ (by decide), s, ← I_add]
      rfl
  · have w1 : w = true := hw.mpr e
    subst w1
    rw [if_neg e]
    cases hcb : canB σ c
    · rw [hcb, if_neg (by decide)] at s
      rw [brn_neg _ _ (by decide), brn_pos _ _ (by decide), brn_pos _ _ (by decide), brn_pos _ _ (by decide), brn_pos _ _ (by decide), s, ← I_add]
      rfl
    · have fa := fit_at σ c 64 0 (by rw [Nat.zero_add]; exact hcb) hc
      rw [Nat.zero_add] at fa
      rw [hcb, if_pos rfl] at s
      rw [brn_neg _ _ (by decide), brn_neg _ _ (by decide), brn_pos _ _ (by decide), brn_neg _ _ (by decide), brn_neg _ _ (by decide), l_fix h T (by omega), bnd_some, show sp_fix σ (cnt (fun c => canB σ c) c 0) = (0, (c : Int)) from by unfold sp_fix; rw [fa, if_neg (by omega)], brn_pos _ _ (show I (rc (0, (c : Int))) = I (c : Int) from rfl), brn_neg _ _ (by decide), s, ← I_add]
      rfl
theorem lk_63 (h : WF b σ) (T : TR σ (xT x)) (bl : Nat → Int32) (hbl : ∀ c, c < 64 → bl c = I (σ (13 + c))) (w : Bool) (hw : w = true ↔ σ 8 ≠ 0) (x3 : Int32) : ∀ (r c f : Nat), c + r = 64 → r < f →
    L_L_looked_63 bl f (I (σ 4)) x3 (bI w) (I (cnt (fun c => canB σ c) c 0)) (I c) x = L_L_looked_63 bl 1 (I (σ 4)) x3 (bI w) (I (canN σ)) (I 64) x := by
  intro r
  induction r with
  | zero =>
    intro c f hk hf
    obtain ⟨f, rfl⟩ : ∃ g, f = g + 1 := ⟨f - 1, by omega⟩
    have hc : c = 64 := by omega
    subst hc
    show L_L_looked_63 bl (f + 1) (I (σ 4)) x3 (bI w) (I (canN σ)) (I 64) x = _
    rw [L_L_looked_63, L_L_looked_63, brn_pos _ _ (show (64 : Int32) ≤ I 64 by decide), brn_pos _ _ (show (64 : Int32) ≤ I 64 by decide)]
  | succ r ih =>
    intro c f hk hf
    obtain ⟨f, rfl⟩ : ∃ g, f = g + 1 := ⟨f - 1, by omega⟩
    have hc : c < 64 := by omega
    have hb := blk_at h (c := (c : Int)) (by omega) (by omega)
    rw [show (13 + (c : Int)).toNat = 13 + c by omega] at hb
    rw [L_L_looked_63, brn_neg _ _ (by rw [lit_64, I_le (by omega) (by omega) (by omega) (by omega)]; omega), grd_pos _ (by rw [I_inb (by omega) (by omega)]; omega), I_cl (by omega) (by omega), Int.toNat_natCast, hbl c hc, hb]
    have g := fun (t : Int32) (ht : t = bI (!blkB σ c)) => (show J_L_looked_82 bl (L_L_looked_63 bl f) t (I (σ 4)) x3 (bI w) (I (cnt (fun c => canB σ c) c 0)) (I c) x = L_L_looked_63 bl 1 (I (σ 4)) x3 (bI w) (I (canN σ)) (I 64) x from by
      rw [ht, lk_cell h T bl _ w hw x3 hc, kk_I, ih (c + 1) f (by omega) (by omega)])
    cases hbb : blkB σ c
    · rw [brn_pos _ _ (by decide)]
      exact g 1 (by rw [hbb]; rfl)
    · rw [brn_neg _ _ (by decide)]
      exact g 0 (by rw [hbb]; rfl)
end LOK3
