/-! ===== what each change leaves of it ===== -/
section D2
variable {b : Int} {σ : Nat → Int}
theorem DI_of {τ : Nat → Int} (h : DI σ) (e : ∀ m : Nat, 5 ≤ m → m ≤ 12 → τ m = σ m) (r : rS τ = rS σ) (p : pS τ = pS σ) (q : σ 8 = 0 → ∀ j : Nat, (j : Int) < τ 4 → τ (140 + 2 * j) = -1) : DI τ := by
  obtain ⟨a1, a2, a3, a4, a5⟩ := h
  refine ⟨by rw [r, a1, e 5 (by omega) (by omega), e 6 (by omega) (by omega)], by rw [p, a2, e 12 (by omega) (by omega)], by rw [e 7 (by omega) (by omega), e 12 (by omega) (by omega)]; exact a3, by rw [e 7 (by omega) (by omega), e 8 (by omega) (by omega)]; exact a4, fun g => q (by rw [← e 8 (by omega) (by omega)]; exact g)⟩
theorem rS_same {τ : Nat → Int} (h2 : 0 ≤ σ 2 ∧ σ 2 ≤ 10) (e : ∀ m : Nat, m = 2 ∨ (77 ≤ m ∧ m < 127) → τ m = σ m) : rS τ = rS σ ∧ pS τ = pS σ := by
  unfold rS pS
  rw [e 2 (Or.inl rfl)]
  exact ⟨sumI_cong (fun i _ hi => e _ (by omega)), sumI_cong (fun i _ hi => e _ (by omega))⟩
theorem DI_house (h : WF b σ) (hD : DI σ) {a f g : Int} (h10 : σ 2 < 10) : DI (houseS σ a f g) ∧ houseS σ a f g 2 = σ 2 + 1 ∧ ∀ m : Nat, ((2 < m ∧ m < 77) ∨ 127 ≤ m) → houseS σ a f g m = σ m := by
  have hn := h.n
  obtain ⟨N, hN⟩ : ∃ N : Nat, σ 2 = N := ⟨(σ 2).toNat, by omega⟩
  have v : ∀ m : Nat, houseS σ a f g m = if m = 2 then σ 2 + 1 else if m = 81 + 5 * N then 0 else if m = 80 + 5 * N then 0 else if m = 79 + 5 * N then g else if m = 78 + 5 * N then f else if m = 77 + 5 * N then a else σ m := by
    intro m
    show U (U (U (U (U (U σ (77 + 5 * σ 2).toNat a) (77 + 5 * σ 2 + 1).toNat f) (77 + 5 * σ 2 + 2).toNat g) (77 + 5 * σ 2 + 3).toNat 0) (77 + 5 * σ 2 + 4).toNat 0) 2 (σ 2 + 1) m = _
    rw [hN, show (77 + 5 * (N : Int)).toNat = 77 + 5 * N by omega, show (77 + 5 * (N : Int) + 1).toNat = 78 + 5 * N by omega, show (77 + 5 * (N : Int) + 2).toNat = 79 + 5 * N by omega, show (77 + 5 * (N : Int) + 3).toNat = 80 + 5 * N by omega, show (77 + 5 * (N : Int) + 4).toNat = 81 + 5 * N by omega]
    rfl
  obtain ⟨τ, hτ⟩ : ∃ τ, τ = houseS σ a f g := ⟨_, rfl⟩
  rw [← hτ] at v ⊢
  have w : ∀ m : Nat, ((2 < m ∧ m < 77) ∨ 127 ≤ m) → τ m = σ m := fun m hm => by
    rw [v, if_neg (by omega), if_neg (by omega), if_neg (by omega), if_neg (by omega), if_neg (by omega), if_neg (by omega)]
  have e2 : τ 2 = σ 2 + 1 := by rw [v, if_pos rfl]
  refine ⟨DI_of hD (fun m h1 h2 => w m (by omega)) ?_ ?_ (fun q j hj => ?_), e2, w⟩
  · unfold rS
    rw [e2, hN, show ((N : Int) + 1).toNat = N + 1 by omega, Int.toNat_natCast, sumI_snoc]
    show sumI (fun i => τ (80 + 5 * i)) N 0 + τ (80 + 5 * (0 + N)) = _
    rw [v (80 + 5 * (0 + N)), if_neg (by omega), if_neg (by omega), if_pos (by omega), sumI_cong (g := fun i => σ (80 + 5 * i)) (fun i _ hi => ?_)]
    · omega
    · show τ (80 + 5 * i) = σ (80 + 5 * i)
      rw [v, if_neg (by omega), if_neg (by omega), if_neg (by omega), if_neg (by omega), if_neg (by omega), if_neg (by omega)]
  · unfold pS
    rw [e2, hN, show ((N : Int) + 1).toNat = N + 1 by omega, Int.toNat_natCast, sumI_snoc]
    show sumI (fun i => τ (81 + 5 * i)) N 0 + τ (81 + 5 * (0 + N)) = _
    rw [v (81 + 5 * (0 + N)), if_neg (by omega), if_pos (by omega), sumI_cong (g := fun i => σ (81 + 5 * i)) (fun i _ hi => ?_)]
    · omega
    · show τ (81 + 5 * i) = σ (81 + 5 * i)
      rw [v, if_neg (by omega), if_neg (by omega), if_neg (by omega), if_neg (by omega), if_neg (by omega), if_neg (by omega)]
  · rw [w 4 (by omega)] at hj
    rw [w _ (by omega)]
    exact hD.2.2.2.2 q j hj
theorem DI_block (h : WF b σ) (hD : DI σ) {a : Int} (h1 : 0 ≤ a) (h2 : a ≤ 63) : DI (blockS σ a) ∧ blockS σ a (13 + a.toNat) = 1 - σ (13 + a.toNat) ∧ ∀ m : Nat, m ≠ 13 + a.toNat → blockS σ a m = σ m := by
  have hn := h.n
  have v : ∀ m : Nat, blockS σ a m = if m = 13 + a.toNat then 1 - σ (13 + a.toNat) else σ m := by
    intro m
    show U σ (13 + a).toNat (1 - σ (13 + a).toNat) m = _
    rw [show (13 + a).toNat = 13 + a.toNat by omega]
    rfl
  have w : ∀ m : Nat, m ≠ 13 + a.toNat → blockS σ a m = σ m := fun m hm => by rw [v, if_neg hm]
  have r := rS_same (τ := blockS σ a) hn (fun m hm => w m (by omega))
  refine ⟨DI_of hD (fun m h1 h2 => w m (by omega)) r.1 r.2 (fun q j hj => ?_), by rw [v, if_pos rfl], w⟩
  rw [w 4 (by omega)] at hj
  rw [w _ (by omega)]
  exact hD.2.2.2.2 q j hj
theorem DI_hall (h : WF b σ) (hD : DI σ) {r f l : Int} (h4 : σ 3 < 4) {j0 : Nat} (hj0 : σ 3 = j0) : DI (hallS σ r f l) ∧ hallS σ r f l 3 = σ 3 + 1 ∧ hallS σ r f l (127 + 3 * j0) = r ∧ hallS σ r f l (128 + 3 * j0) = f ∧ hallS σ r f l (129 + 3 * j0) = l ∧ ∀ m : Nat, m ≠ 3 → (m < 127 + 3 * j0 ∨ 129 + 3 * j0 < m) → hallS σ r f l m = σ m := by
  have hn := h.n
  have hm3 := h.m
  have v : ∀ m : Nat, hallS σ r f l m = if m = 3 then σ 3 + 1 else if m = 129 + 3 * j0 then l else if m = 128 + 3 * j0 then f else if m = 127 + 3 * j0 then r else σ m := by
    intro m
    show U (U (U (U σ (127 + 3 * σ 3).toNat r) (127 + 3 * σ 3 + 1).toNat f) (127 + 3 * σ 3 + 2).toNat l) 3 (σ 3 + 1) m = _
    rw [hj0, show (127 + 3 * (j0 : Int)).toNat = 127 + 3 * j0 by omega, show (127 + 3 * (j0 : Int) + 1).toNat = 128 + 3 * j0 by omega, show (127 + 3 * (j0 : Int) + 2).toNat = 129 + 3 * j0 by omega]
    rfl
  have w : ∀ m : Nat, m ≠ 3 → (m < 127 + 3 * j0 ∨ 129 + 3 * j0 < m) → hallS σ r f l m = σ m := fun m h1 h2 => by rw [v, if_neg h1, if_neg (by omega), if_neg (by omega), if_neg (by omega)]
  have rr := rS_same (τ := hallS σ r f l) hn (fun m hm => w m (by omega) (by omega))
  refine ⟨DI_of hD (fun m h1 h2 => w m (by omega) (by omega)) rr.1 rr.2 (fun q j hj => ?_), by rw [v, if_pos rfl], ?_, ?_, ?_, w⟩
  · rw [w 4 (by omega) (by omega)] at hj
    rw [w _ (by omega) (by omega)]
    exact hD.2.2.2.2 q j hj
  · rw [v, if_neg (by omega), if_neg (by omega), if_neg (by omega), if_pos rfl]
  · rw [v, if_neg (by omega), if_neg (by omega), if_pos rfl]
  · rw [v, if_neg (by omega), if_pos rfl]
theorem DI_post (h : WF b σ) (hD : DI σ) {a : Int} (h4 : σ 4 < 4) : DI (postS σ a) ∧ postS σ a 4 = σ 4 + 1 ∧ FR (fun m => if m = 4 then σ 4 + 1 else σ m) (postS σ a) := by
  have hn := h.n
  have hq := h.q
  obtain ⟨N, hN⟩ : ∃ N : Nat, σ 4 = N := ⟨(σ 4).toNat, by omega⟩
  have v : ∀ m : Nat, postS σ a m = if m = 4 then σ 4 + 1 else if m = 140 + 2 * N then -1 else if m = 139 + 2 * N then a else σ m := by
    intro m
    show U (U (U σ (139 + 2 * σ 4).toNat a) (139 + 2 * σ 4 + 1).toNat (-1)) 4 (σ 4 + 1) m = _
    rw [hN, show (139 + 2 * (N : Int)).toNat = 139 + 2 * N by omega, show (139 + 2 * (N : Int) + 1).toNat = 140 + 2 * N by omega]
    rfl
  have w : ∀ m : Nat, m ≠ 4 → m < 139 → postS σ a m = σ m := fun m h1 h2 => by rw [v, if_neg h1, if_neg (by omega), if_neg (by omega)]
  have rr := rS_same (τ := postS σ a) hn (fun m hm => w m (by omega) (by omega))
  have e4 : postS σ a 4 = σ 4 + 1 := by rw [v, if_pos rfl]
  refine ⟨DI_of hD (fun m h1 h2 => w m (by omega) (by omega)) rr.1 rr.2 (fun q j hj => ?_), e4, fun m hm => ?_⟩
  · rw [e4] at hj
    rw [v, if_neg (by omega)]
    by_cases e : j = N
    · rw [if_pos (by omega)]
    · rw [if_neg (by omega), if_neg (by omega)]
      exact hD.2.2.2.2 q j (by omega)
  · show postS σ a m = if m = 4 then σ 4 + 1 else σ m
    by_cases e : m = 4
    · rw [if_pos e, e, e4]
    · rw [if_neg e]
      exact w m e (by omega)
theorem DI_pass (h : WF b σ) (hD : DI σ) {a : Int} : DI (passS σ a) ∧ FR σ (passS σ a) := by
  have hn := h.n
  have w : ∀ m : Nat, 1 < m → passS σ a m = σ m := fun m hm => by
    show U (U σ 1 (σ 1 + (σ 0 + a) / 24)) 0 ((σ 0 + a) % 24) m = _
    rw [U_ne _ _ (by omega), U_ne _ _ (by omega)]
  have rr := rS_same (τ := passS σ a) hn (fun m hm => w m (by omega))
  refine ⟨DI_of hD (fun m h1 h2 => w m (by omega)) rr.1 rr.2 (fun q j hj => ?_), fun m hm => w m (by omega)⟩
  rw [w 4 (by omega)] at hj
  rw [w _ (by omega)]
  exact hD.2.2.2.2 q j hj
theorem DI_tell (h : WF b σ) (hD : DI σ) {p t : Int} (hp : 0 ≤ p ∧ p < σ 4) (h8 : σ 8 ≠ 0) : DI (tellS σ p t) ∧ FR σ (tellS σ p t) := by
  have hn := h.n
  have hq := h.q
  have w : ∀ m : Nat, m < 140 → tellS σ p t m = σ m := fun m hm => by
    show U σ (139 + 2 * p + 1).toNat t m = _
    rw [U_ne _ _ (by omega)]
  have rr := rS_same (τ := tellS σ p t) hn (fun m hm => w m (by omega))
  exact ⟨DI_of hD (fun m h1 h2 => w m (by omega)) rr.1 rr.2 (fun q => absurd q h8), fun m hm => w m (by omega)⟩
/-- a ring, from its first bell to its last -/
def RI (σ : Nat → Int) (_ : Nat) (ρ : Nat → Int) : Prop := DI ρ ∧ FR σ ρ
theorem RI_p0 (h : WF b σ) (hD : DI σ) {i : Nat} (hi : (i : Int) < σ 2) (k : Int) (h0 : 0 ≤ k) (h3 : k ≤ 3) : RI σ 0 (U (hearS σ i k) 5 (σ 5 + 1)) := by
  have q := DI_hear (c := 5) h.n hi h0 h3 (Or.inl rfl) hD
  exact ⟨q.1, q.2.1⟩
theorem RI_p1 (h : WF b σ) (hD : DI σ) {i : Nat} (hi : (i : Int) < σ 2) (ρ : Nat → Int) (hρ : ρ = U (hearS σ i 3) 5 (σ 5 + 1)) : RI σ 0 (rsS (σ 4).toNat 0 (U (U ρ 7 (ρ 7 + 1)) 8 ((i : Int) + 1))) := by
  have hn := h.n
  have hq := h.q
  have q := DI_hear (c := 5) h.n hi (show (0 : Int) ≤ 3 by omega) (by omega) (Or.inl rfl) hD
  rw [← hρ] at q
  obtain ⟨q1, q2, q7, q8, q12⟩ := q
  rw [if_pos rfl] at q12
  have e2 := q2 2 (by omega)
  have e4 := q2 4 (by omega)
  have h7 := hD.2.2.1
  have := DI_prank (ρ := ρ) (i := i) (q := (σ 4).toNat) (by rw [e2]; exact hn) q1 (by rw [e4]; omega) (by omega) (by omega)
  exact ⟨this.1, q2.tr this.2⟩
theorem RI_pt (h : WF b σ) (ρ : Nat → Int) (j : Nat) (k : Int) (hP : RI σ j ρ) (hj : (j : Int) < ρ 2) (h0 : 0 ≤ k) (h3 : k ≤ 3) : RI σ (j + 1) (U (hearS ρ j k) 6 (ρ 6 + 1)) := by
  have hn := h.n
  have q := DI_hear (c := 6) (by rw [hP.2 2 (by omega)]; exact hn) hj h0 h3 (Or.inr rfl) hP.1
  exact ⟨q.1, hP.2.tr q.2.1⟩
end D2
