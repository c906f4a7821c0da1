/-! ===== what holds of a town as drawn ===== -/
theorem sumI_at {f g : Nat → Int} {i : Nat} {d : Int} : ∀ r k, k ≤ i → i < k + r → (∀ j, k ≤ j → j < k + r → g j = f j + (if j = i then d else 0)) → sumI g r k = sumI f r k + d := by
  intro r
  induction r with
  | zero => intro k h1 h2; omega
  | succ r ih =>
    intro k h1 h2 h3
    show g k + sumI g r (k + 1) = f k + sumI f r (k + 1) + d
    have h4 := h3 k (by omega) (by omega)
    by_cases e : k = i
    · rw [if_pos e] at h4
      rw [h4, sumI_cong (g := f) (fun j a b => by have := h3 j (by omega) (by omega); rw [if_neg (by omega)] at this; omega)]
      omega
    · rw [if_neg e] at h4
      rw [h4, ih (k + 1) (by omega) (by omega) (fun j a b => h3 j (by omega) (by omega))]
      omega
theorem sumI_snoc (f : Nat → Int) : ∀ r k, sumI f (r + 1) k = sumI f r k + f (k + r) := by
  intro r
  induction r with
  | zero => intro k; show f k + 0 = 0 + f (k + 0); rw [Nat.add_zero]; omega
  | succ r ih =>
    intro k
    have := ih (k + 1)
    show f k + sumI f (r + 1) (k + 1) = f k + sumI f r (k + 1) + f (k + (r + 1))
    rw [this, show k + 1 + r = k + (r + 1) by omega]
    omega
def rS (σ : Nat → Int) : Int := sumI (fun i => σ (80 + 5 * i)) (σ 2).toNat 0
def pS (σ : Nat → Int) : Int := sumI (fun i => σ (81 + 5 * i)) (σ 2).toNat 0
def DI (σ : Nat → Int) : Prop := rS σ = σ 5 + σ 6 ∧ pS σ = σ 12 ∧ (0 ≤ σ 7 ∧ σ 7 ≤ σ 12) ∧ (0 < σ 8 ↔ 0 < σ 7) ∧ (σ 8 = 0 → ∀ j : Nat, (j : Int) < σ 4 → σ (140 + 2 * j) = -1)
/-- what rings, hours and tellings leave as it was -/
def FR (σ ρ : Nat → Int) : Prop := ∀ m : Nat, ((1 < m ∧ m < 5) ∨ (13 ≤ m ∧ m < 77) ∨ (127 ≤ m ∧ m < 139)) → ρ m = σ m
theorem FR.rf (σ : Nat → Int) : FR σ σ := fun _ _ => rfl
theorem FR.tr {σ ρ τ : Nat → Int} (h : FR σ ρ) (g : FR ρ τ) : FR σ τ := fun m hm => (g m hm).trans (h m hm)
theorem DI_hear {ρ : Nat → Int} {j : Nat} {k : Int} {c : Nat} (h2 : 0 ≤ ρ 2 ∧ ρ 2 ≤ 10) (hj : (j : Int) < ρ 2) (h0 : 0 ≤ k) (h3 : k ≤ 3) (hc : c = 5 ∨ c = 6) (h : DI ρ) :
    DI (U (hearS ρ j k) c (ρ c + 1)) ∧ FR ρ (U (hearS ρ j k) c (ρ c + 1)) ∧ U (hearS ρ j k) c (ρ c + 1) 7 = ρ 7 ∧ U (hearS ρ j k) c (ρ c + 1) 8 = ρ 8 ∧ U (hearS ρ j k) c (ρ c + 1) 12 = ρ 12 + (if k = 3 then 1 else 0) := by
  obtain ⟨a1, a2, a3, a4, a5⟩ := h
  have v : ∀ m : Nat, U (hearS ρ j k) c (ρ c + 1) m = if m = c then ρ c + 1 else if m = 81 + 5 * j then ρ (81 + 5 * j) + (if k = 3 then 1 else 0) else if m = 80 + 5 * j then ρ (80 + 5 * j) + 1 else if m = (9 + k).toNat then ρ (9 + k).toNat + 1 else ρ m := fun m => rfl
  obtain ⟨τ, hτ⟩ : ∃ τ, τ = U (hearS ρ j k) c (ρ c + 1) := ⟨_, rfl⟩
  rw [← hτ] at v ⊢
  have e2 : τ 2 = ρ 2 := by rw [v, if_neg (by omega), if_neg (by omega), if_neg (by omega), if_neg (by omega)]
  have e4 : τ 4 = ρ 4 := by rw [v, if_neg (by omega), if_neg (by omega), if_neg (by omega), if_neg (by omega)]
  have e7 : τ 7 = ρ 7 := by rw [v, if_neg (by omega), if_neg (by omega), if_neg (by omega), if_neg (by omega)]
  have e8 : τ 8 = ρ 8 := by rw [v, if_neg (by omega), if_neg (by omega), if_neg (by omega), if_neg (by omega)]
  have e12 : τ 12 = ρ 12 + (if k = 3 then 1 else 0) := by
    rw [v, if_neg (by omega), if_neg (by omega), if_neg (by omega)]
    by_cases q : k = 3
    · rw [if_pos (by omega), if_pos q, show (9 + k).toNat = 12 by omega]
    · rw [if_neg (by omega), if_neg q]
      omega
  have e56 : τ 5 + τ 6 = ρ 5 + ρ 6 + 1 := by
    rcases hc with rfl | rfl
    · rw [v 5, v 6, if_pos rfl, if_neg (by omega), if_neg (by omega), if_neg (by omega), if_neg (by omega)]
      omega
    · rw [v 5, v 6, if_pos rfl, if_neg (by omega), if_neg (by omega), if_neg (by omega), if_neg (by omega)]
      omega
  refine ⟨⟨?_, ?_, ?_, ?_, fun q i hi => ?_⟩, fun m hm => ?_, e7, e8, e12⟩
  · unfold rS at a1 ⊢
    rw [e2, e56, sumI_at (f := fun i => ρ (80 + 5 * i)) (i := j) (d := 1) (ρ 2).toNat 0 (by omega) (by omega) (fun i _ hi => ?_), a1]
    show τ (80 + 5 * i) = ρ (80 + 5 * i) + _
    rw [v, if_neg (by omega), if_neg (by omega)]
    by_cases q : i = j
    · subst q
      rw [if_pos rfl, if_pos rfl]
    · rw [if_neg (by omega), if_neg (by omega), if_neg q]
      omega
  · unfold pS at a2 ⊢
    rw [e2, e12, sumI_at (f := fun i => ρ (81 + 5 * i)) (i := j) (d := if k = 3 then 1 else 0) (ρ 2).toNat 0 (by omega) (by omega) (fun i _ hi => ?_), a2]
    show τ (81 + 5 * i) = ρ (81 + 5 * i) + _
    rw [v, if_neg (by omega)]
    by_cases q : i = j
    · subst q
      rw [if_pos rfl, if_pos rfl]
    · rw [if_neg (by omega), if_neg (by omega), if_neg (by omega), if_neg q]
      omega
  · rw [e7, e12]
    split <;> omega
  · rw [e7, e8]
    exact a4
  · rw [e8] at q
    rw [e4] at hi
    rw [v, if_neg (by omega), if_neg (by omega), if_neg (by omega), if_neg (by omega)]
    exact a5 q i hi
  · rw [v, if_neg (by omega), if_neg (by omega), if_neg (by omega), if_neg (by omega)]
theorem DI_prank {ρ : Nat → Int} {i : Nat} {q : Nat} (h2 : 0 ≤ ρ 2 ∧ ρ 2 ≤ 10) (h : DI ρ) (hq : (q : Int) = ρ 4) (hq4 : q ≤ 4) (h7 : ρ 7 < ρ 12) : DI (rsS q 0 (U (U ρ 7 (ρ 7 + 1)) 8 ((i : Int) + 1))) ∧ FR ρ (rsS q 0 (U (U ρ 7 (ρ 7 + 1)) 8 ((i : Int) + 1))) := by
  obtain ⟨a1, a2, a3, a4, a5⟩ := h
  have v : ∀ m : Nat, (∀ j, j < q → m ≠ 140 + 2 * j) → rsS q 0 (U (U ρ 7 (ρ 7 + 1)) 8 ((i : Int) + 1)) m = if m = 8 then (i : Int) + 1 else if m = 7 then ρ 7 + 1 else ρ m := fun m hm => rsS_out _ _ _ _ (fun j _ b => hm j (by omega))
  obtain ⟨τ, hτ⟩ : ∃ τ, τ = rsS q 0 (U (U ρ 7 (ρ 7 + 1)) 8 ((i : Int) + 1)) := ⟨_, rfl⟩
  rw [← hτ] at v ⊢
  have w : ∀ m : Nat, m < 139 → m ≠ 7 → m ≠ 8 → τ m = ρ m := fun m h1 h2 h3 => by rw [v m (fun j hj => by omega), if_neg h3, if_neg h2]
  have e7 : τ 7 = ρ 7 + 1 := by rw [v 7 (fun j hj => by omega), if_neg (by omega), if_pos rfl]
  have e8 : τ 8 = (i : Int) + 1 := by rw [v 8 (fun j hj => by omega), if_pos rfl]
  refine ⟨⟨?_, ?_, ?_, ?_, fun q9 j hj => ?_⟩, fun m hm => w m (by omega) (by omega) (by omega)⟩
  · unfold rS at a1 ⊢
    rw [w 2 (by omega) (by omega) (by omega), w 5 (by omega) (by omega) (by omega), w 6 (by omega) (by omega) (by omega), ← a1]
    refine sumI_cong (fun k _ hk => ?_)
    exact w _ (by omega) (by omega) (by omega)
  · unfold pS at a2 ⊢
    rw [w 2 (by omega) (by omega) (by omega), w 12 (by omega) (by omega) (by omega), ← a2]
    refine sumI_cong (fun k _ hk => ?_)
    exact w _ (by omega) (by omega) (by omega)
  · rw [e7, w 12 (by omega) (by omega) (by omega)]
    omega
  · rw [e7, e8]
    omega
  · rw [e8] at q9
    omega
