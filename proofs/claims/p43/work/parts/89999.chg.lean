/-! ===== a change that undone tries ===== -/
theorem lg_self (x : Int64) : lg_cmp x x = 0 := by
  unfold lg_cmp
  rw [if_neg (fun h => by have := Int64.lt_iff_toInt_lt.mp h; omega), if_pos rfl]
/-- the change is refused, and the town and its past stay; or it is made, and the past has one town more -/
def CH (b : Int) (σ π : Nat → Int) (n e : Nat) (F : Option (Int32 × XVal)) : Prop := ∃ v x' y', F = some (v, x') ∧ ((v < 0 ∧ St (b + 9000) σ π n e x' y') ∨ (0 ≤ v ∧ ∃ σ', St (b + 9000) σ' (pushP n σ π) (if n = 8 then 8 else n + 1) ((e + 1) % 8) x' y'))
section CHG
variable {b : Int} {σ π : Nat → Int} {n e : Nat} {x : XVal} {y : MVal}
theorem Nn_pos {v : Int32} (h : Nn v) : 0 ≤ v ∧ ¬ v < 0 := by
  obtain ⟨z, rfl, h1, h2⟩ := h
  exact ⟨by rw [lit_0, I_le (by omega) (by omega) (by omega) (by omega)]; exact h1, by rw [lit_0, I_lt (by omega) (by omega) (by omega) (by omega)]; omega⟩
/-- from what a change does to what the law's helper answers -/
theorem CH_of {cs : List (Nat × Int)} {G : Option (Nat × Int32 × XVal)} {H : Option (Int32 × MVal)} (hσ : ∀ k, InR (σ k)) (hO : OPM cs b σ π n e G H) {F : Option (Int32 × XVal)} (h0 : ∀ v x', G = some (0, v, x') → ∃ w, F = some (w, x') ∧ (Nn v → 0 ≤ w)) (h1 : ∀ k v x', k ≠ 0 → (∃ t, (k, t) ∈ cs) → G = some (k, v, x') → ∃ w : Int32, F = some (w, x') ∧ w < 0) : CH b σ π n e F := by
  obtain ⟨k, v, x', v2, y', t, σ', π', n', e', hm, hG, -, -, -, hS, hz⟩ := hO
  rcases hz with ⟨k0, hσ', rfl, rfl, rfl⟩ | ⟨rfl, rfl, rfl, rfl, hn⟩
  · obtain ⟨w, g1, g2⟩ := h1 k v x' k0 ⟨t, hm⟩ hG
    obtain ⟨y2, hS2⟩ := St_cong hS hσ (fun j hj => (hσ' j hj).symm)
    exact ⟨w, x', y2, g1, Or.inl ⟨g2, hS2.mono (by omega)⟩⟩
  · obtain ⟨w, g1, g2⟩ := h0 v x' hG
    exact ⟨w, x', y', g1, Or.inr ⟨g2 hn, σ', hS.mono (by omega)⟩⟩
theorem in3 {k : Nat} {a1 a2 : Nat} {t0 t1 t2 t : Int} (h : (k, t) ∈ [(0, t0), (a1, t1), (a2, t2)]) (k0 : k ≠ 0) : k = a1 ∨ k = a2 := by
  simp only [List.mem_cons, Prod.mk.injEq, List.not_mem_nil, or_false] at h
  rcases h with h | h | h
  · exact absurd h.1 k0
  · exact Or.inl h.1
  · exact Or.inr h.1
theorem in2 {k : Nat} {a1 : Nat} {t0 t1 t : Int} (h : (k, t) ∈ [(0, t0), (a1, t1)]) (k0 : k ≠ 0) : k = a1 := by
  simp only [List.mem_cons, Prod.mk.injEq, List.not_mem_nil, or_false] at h
  rcases h with h | h
  · exact absurd h.1 k0
  · exact h.1
theorem in4 {k : Nat} {a1 a2 a3 : Nat} {t0 t1 t2 t3 t : Int} (h : (k, t) ∈ [(0, t0), (a1, t1), (a2, t2), (a3, t3)]) (k0 : k ≠ 0) : k = a1 ∨ k = a2 ∨ k = a3 := by
  simp only [List.mem_cons, Prod.mk.injEq, List.not_mem_nil, or_false] at h
  rcases h with h | h | h | h
  · exact absurd h.1 k0
  · exact Or.inl h.1
  · exact Or.inr (Or.inl h.1)
  · exact Or.inr (Or.inr h.1)
theorem ch_house (hR : St b σ π n e x y) (hb : 0 ≤ b) (p1 p2 p3 : Int32) : CH b σ π n e (F_L_house p1 p2 p3 x) := by
  refine CH_of hR.1.1.r (om_house hR hb p1 p2 p3) (fun v x' hG => ⟨v, ?_, fun h => (Nn_pos h).1⟩) (fun k v x' k0 ⟨t, hm⟩ hG => ?_)
  · unfold F_L_house
    rw [hG, bnd_some, brn_pos _ _ rfl]
  · rcases in3 hm k0 with rfl | rfl
    · refine ⟨-1, ?_, by decide⟩
      unfold F_L_house
      rw [hG, bnd_some, brn_neg _ _ (by first | decide | (show ¬ ((1 : Nat) = 0); decide) | (show ¬ ((2 : Nat) = 0); decide) | (show ¬ ((3 : Nat) = 0); decide) | (show ¬ ((2 : Nat) = 1); decide) | (show ¬ ((3 : Nat) = 1); decide) | (show ¬ ((3 : Nat) = 2); decide)), brn_pos _ _ rfl]
    · refine ⟨-2, ?_, by decide⟩
      unfold F_L_house
      rw [hG, bnd_some, brn_neg _ _ (by first | decide | (show ¬ ((1 : Nat) = 0); decide) | (show ¬ ((2 : Nat) = 0); decide) | (show ¬ ((3 : Nat) = 0); decide) | (show ¬ ((2 : Nat) = 1); decide) | (show ¬ ((3 : Nat) = 1); decide) | (show ¬ ((3 : Nat) = 2); decide)), brn_neg _ _ (by first | decide | (show ¬ ((1 : Nat) = 0); decide) | (show ¬ ((2 : Nat) = 0); decide) | (show ¬ ((3 : Nat) = 0); decide) | (show ¬ ((2 : Nat) = 1); decide) | (show ¬ ((3 : Nat) = 1); decide) | (show ¬ ((3 : Nat) = 2); decide)), brn_pos _ _ rfl]
theorem ch_hall (hR : St b σ π n e x y) (hb : 0 ≤ b) (p1 p2 p3 : Int32) : CH b σ π n e (F_L_hall p1 p2 p3 x) := by
  refine CH_of hR.1.1.r (om_hall hR hb p1 p2 p3) (fun v x' hG => ⟨v, ?_, fun h => (Nn_pos h).1⟩) (fun k v x' k0 ⟨t, hm⟩ hG => ?_)
  · unfold F_L_hall
    rw [hG, bnd_some, brn_pos _ _ rfl]
  · rcases in3 hm k0 with rfl | rfl
    · refine ⟨-1, ?_, by decide⟩
      unfold F_L_hall
      rw [hG, bnd_some, brn_neg _ _ (by first | decide | (show ¬ ((1 : Nat) = 0); decide) | (show ¬ ((2 : Nat) = 0); decide) | (show ¬ ((3 : Nat) = 0); decide) | (show ¬ ((2 : Nat) = 1); decide) | (show ¬ ((3 : Nat) = 1); decide) | (show ¬ ((3 : Nat) = 2); decide)), brn_pos _ _ rfl]
    · refine ⟨-2, ?_, by decide⟩
      unfold F_L_hall
      rw [hG, bnd_some, brn_neg _ _ (by first | decide | (show ¬ ((1 : Nat) = 0); decide) | (show ¬ ((2 : Nat) = 0); decide) | (show ¬ ((3 : Nat) = 0); decide) | (show ¬ ((2 : Nat) = 1); decide) | (show ¬ ((3 : Nat) = 1); decide) | (show ¬ ((3 : Nat) = 2); decide)), brn_neg _ _ (by first | decide | (show ¬ ((1 : Nat) = 0); decide) | (show ¬ ((2 : Nat) = 0); decide) | (show ¬ ((3 : Nat) = 0); decide) | (show ¬ ((2 : Nat) = 1); decide) | (show ¬ ((3 : Nat) = 1); decide) | (show ¬ ((3 : Nat) = 2); decide)), brn_pos _ _ rfl]
theorem ch_ring (hR : St b σ π n e x y) (hb : 0 ≤ b) (hb2 : b < 800000) (p1 p2 p3 : Int32) : CH b σ π n e (F_L_ring p1 p2 p3 x) := by
  refine CH_of hR.1.1.r (om_ring hR hb (by omega) p1 p2 p3) (fun v x' hG => ⟨v, ?_, fun h => (Nn_pos h).1⟩) (fun k v x' k0 ⟨t, hm⟩ hG => ?_)
  · unfold F_L_ring
    rw [hG, bnd_some, brn_pos _ _ rfl]
  · rcases in3 hm k0 with rfl | rfl
    · refine ⟨-1, ?_, by decide⟩
      unfold F_L_ring
      rw [hG, bnd_some, brn_neg _ _ (by first | decide | (show ¬ ((1 : Nat) = 0); decide) | (show ¬ ((2 : Nat) = 0); decide) | (show ¬ ((3 : Nat) = 0); decide) | (show ¬ ((2 : Nat) = 1); decide) | (show ¬ ((3 : Nat) = 1); decide) | (show ¬ ((3 : Nat) = 2); decide)), brn_pos _ _ rfl]
    · refine ⟨-2, ?_, by decide⟩
      unfold F_L_ring
      rw [hG, bnd_some, brn_neg _ _ (by first | decide | (show ¬ ((1 : Nat) = 0); decide) | (show ¬ ((2 : Nat) = 0); decide) | (show ¬ ((3 : Nat) = 0); decide) | (show ¬ ((2 : Nat) = 1); decide) | (show ¬ ((3 : Nat) = 1); decide) | (show ¬ ((3 : Nat) = 2); decide)), brn_neg _ _ (by first | decide | (show ¬ ((1 : Nat) = 0); decide) | (show ¬ ((2 : Nat) = 0); decide) | (show ¬ ((3 : Nat) = 0); decide) | (show ¬ ((2 : Nat) = 1); decide) | (show ¬ ((3 : Nat) = 1); decide) | (show ¬ ((3 : Nat) = 2); decide)), brn_pos _ _ rfl]
theorem ch_post (hR : St b σ π n e x y) (hb : 0 ≤ b) (p1 : Int32) : CH b σ π n e (F_L_post p1 x) := by
  refine CH_of hR.1.1.r (om_post hR hb p1) (fun v x' hG => ⟨v, ?_, fun h => (Nn_pos h).1⟩) (fun k v x' k0 ⟨t, hm⟩ hG => ?_)
  · unfold F_L_post
    rw [hG, bnd_some, brn_pos _ _ rfl]
  · rcases in3 hm k0 with rfl | rfl
    · refine ⟨-1, ?_, by decide⟩
      unfold F_L_post
      rw [hG, bnd_some, brn_neg _ _ (by first | decide | (show ¬ ((1 : Nat) = 0); decide) | (show ¬ ((2 : Nat) = 0); decide) | (show ¬ ((3 : Nat) = 0); decide) | (show ¬ ((2 : Nat) = 1); decide) | (show ¬ ((3 : Nat) = 1); decide) | (show ¬ ((3 : Nat) = 2); decide)), brn_pos _ _ rfl]
    · refine ⟨-2, ?_, by decide⟩
      unfold F_L_post
      rw [hG, bnd_some, brn_neg _ _ (by first | decide | (show ¬ ((1 : Nat) = 0); decide) | (show ¬ ((2 : Nat) = 0); decide) | (show ¬ ((3 : Nat) = 0); decide) | (show ¬ ((2 : Nat) = 1); decide) | (show ¬ ((3 : Nat) = 1); decide) | (show ¬ ((3 : Nat) = 2); decide)), brn_neg _ _ (by first | decide | (show ¬ ((1 : Nat) = 0); decide) | (show ¬ ((2 : Nat) = 0); decide) | (show ¬ ((3 : Nat) = 0); decide) | (show ¬ ((2 : Nat) = 1); decide) | (show ¬ ((3 : Nat) = 1); decide) | (show ¬ ((3 : Nat) = 2); decide)), brn_pos _ _ rfl]
theorem ch_block (hR : St b σ π n e x y) (hb : 0 ≤ b) (p1 : Int32) : CH b σ π n e (F_L_block p1 x) := by
  refine CH_of hR.1.1.r (om_block hR hb p1) (fun v x' hG => ?_) (fun k v x' k0 ⟨t, hm⟩ hG => ?_)
  · unfold F_L_block
    rw [hG, bnd_some, brn_pos _ _ rfl]
    by_cases q : v = 0
    · rw [brn_pos _ _ q]
      exact ⟨0, rfl, fun _ => by decide⟩
    · rw [brn_neg _ _ q]
      exact ⟨1, rfl, fun _ => by decide⟩
  · rcases in3 hm k0 with rfl | rfl
    · refine ⟨-1, ?_, by decide⟩
      unfold F_L_block
      rw [hG, bnd_some, brn_neg _ _ (by first | decide | (show ¬ ((1 : Nat) = 0); decide) | (show ¬ ((2 : Nat) = 0); decide) | (show ¬ ((3 : Nat) = 0); decide) | (show ¬ ((2 : Nat) = 1); decide) | (show ¬ ((3 : Nat) = 1); decide) | (show ¬ ((3 : Nat) = 2); decide)), brn_pos _ _ rfl]
    · refine ⟨-2, ?_, by decide⟩
      unfold F_L_block
      rw [hG, bnd_some, brn_neg _ _ (by first | decide | (show ¬ ((1 : Nat) = 0); decide) | (show ¬ ((2 : Nat) = 0); decide) | (show ¬ ((3 : Nat) = 0); decide) | (show ¬ ((2 : Nat) = 1); decide) | (show ¬ ((3 : Nat) = 1); decide) | (show ¬ ((3 : Nat) = 2); decide)), brn_neg _ _ (by first | decide | (show ¬ ((1 : Nat) = 0); decide) | (show ¬ ((2 : Nat) = 0); decide) | (show ¬ ((3 : Nat) = 0); decide) | (show ¬ ((2 : Nat) = 1); decide) | (show ¬ ((3 : Nat) = 1); decide) | (show ¬ ((3 : Nat) = 2); decide)), brn_pos _ _ rfl]
theorem ch_goAway (hR : St b σ π n e x y) (hb : 0 ≤ b) (p1 : Int32) : CH b σ π n e (F_L_goAway p1 x) := by
  refine CH_of hR.1.1.r (om_goAway hR hb p1) (fun v x' hG => ⟨v, ?_, fun h => (Nn_pos h).1⟩) (fun k v x' k0 ⟨t, hm⟩ hG => ?_)
  · unfold F_L_goAway
    rw [hG, bnd_some, brn_pos _ _ rfl]
  · obtain rfl := in2 hm k0
    refine ⟨-1, ?_, by decide⟩
    unfold F_L_goAway
    rw [hG, bnd_some, brn_neg _ _ (by first | decide | (show ¬ ((1 : Nat) = 0); decide) | (show ¬ ((2 : Nat) = 0); decide) | (show ¬ ((3 : Nat) = 0); decide) | (show ¬ ((2 : Nat) = 1); decide) | (show ¬ ((3 : Nat) = 1); decide) | (show ¬ ((3 : Nat) = 2); decide)), brn_pos _ _ rfl]
theorem ch_dropHall (hR : St b σ π n e x y) (hb : 0 ≤ b) (p1 : Int32) : CH b σ π n e (F_L_dropHall p1 x) := by
  refine CH_of hR.1.1.r (om_dropHall hR hb p1) (fun v x' hG => ⟨v, ?_, fun h => (Nn_pos h).1⟩) (fun k v x' k0 ⟨t, hm⟩ hG => ?_)
  · unfold F_L_dropHall
    rw [hG, bnd_some, brn_pos _ _ rfl]
  · obtain rfl := in2 hm k0
    refine ⟨-1, ?_, by decide⟩
    unfold F_L_dropHall
    rw [hG, bnd_some, brn_neg _ _ (by first | decide | (show ¬ ((1 : Nat) = 0); decide) | (show ¬ ((2 : Nat) = 0); decide) | (show ¬ ((3 : Nat) = 0); decide) | (show ¬ ((2 : Nat) = 1); decide) | (show ¬ ((3 : Nat) = 1); decide) | (show ¬ ((3 : Nat) = 2); decide)), brn_pos _ _ rfl]
theorem ch_dropPost (hR : St b σ π n e x y) (hb : 0 ≤ b) (p1 : Int32) : CH b σ π n e (F_L_dropPost p1 x) := by
  refine CH_of hR.1.1.r (om_dropPost hR hb p1) (fun v x' hG => ⟨v, ?_, fun h => (Nn_pos h).1⟩) (fun k v x' k0 ⟨t, hm⟩ hG => ?_)
  · unfold F_L_dropPost
    rw [hG, bnd_some, brn_pos _ _ rfl]
  · obtain rfl := in2 hm k0
    refine ⟨-1, ?_, by decide⟩
    unfold F_L_dropPost
    rw [hG, bnd_some, brn_neg _ _ (by first | decide | (show ¬ ((1 : Nat) = 0); decide) | (show ¬ ((2 : Nat) = 0); decide) | (show ¬ ((3 : Nat) = 0); decide) | (show ¬ ((2 : Nat) = 1); decide) | (show ¬ ((3 : Nat) = 1); decide) | (show ¬ ((3 : Nat) = 2); decide)), brn_pos _ _ rfl]
theorem ch_pass (hR : St b σ π n e x y) (hb : 0 ≤ b) (hb2 : b < 800000) (p1 : Int32) : CH b σ π n e (F_L_pass p1 x) := by
  refine CH_of hR.1.1.r (om_pass hR hb (by omega) p1) (fun v x' hG => ⟨v, ?_, fun h => (Nn_pos h).1⟩) (fun k v x' k0 ⟨t, hm⟩ hG => ?_)
  · unfold F_L_pass
    rw [hG, bnd_some, brn_pos _ _ rfl]
  · obtain rfl := in2 hm k0
    refine ⟨-1, ?_, by decide⟩
    unfold F_L_pass
    rw [hG, bnd_some, brn_neg _ _ (by first | decide | (show ¬ ((1 : Nat) = 0); decide) | (show ¬ ((2 : Nat) = 0); decide) | (show ¬ ((3 : Nat) = 0); decide) | (show ¬ ((2 : Nat) = 1); decide) | (show ¬ ((3 : Nat) = 1); decide) | (show ¬ ((3 : Nat) = 2); decide)), brn_pos _ _ rfl]
theorem ch_tell (hR : St b σ π n e x y) (hb : 0 ≤ b) (p1 p2 : Int32) : CH b σ π n e (F_L_tell p1 p2 x) := by
  refine CH_of hR.1.1.r (om_tell hR hb p1 p2) (fun v x' hG => ⟨v, ?_, fun h => (Nn_pos h).1⟩) (fun k v x' k0 ⟨t, hm⟩ hG => ?_)
  · unfold F_L_tell
    rw [hG, bnd_some, brn_pos _ _ rfl]
  · rcases in4 hm k0 with rfl | rfl | rfl
    · refine ⟨-1, ?_, by decide⟩
      unfold F_L_tell
      rw [hG, bnd_some, brn_neg _ _ (by first | decide | (show ¬ ((1 : Nat) = 0); decide) | (show ¬ ((2 : Nat) = 0); decide) | (show ¬ ((3 : Nat) = 0); decide) | (show ¬ ((2 : Nat) = 1); decide) | (show ¬ ((3 : Nat) = 1); decide) | (show ¬ ((3 : Nat) = 2); decide)), brn_pos _ _ rfl]
    · refine ⟨-2, ?_, by decide⟩
      unfold F_L_tell
      rw [hG, bnd_some, brn_neg _ _ (by first | decide | (show ¬ ((1 : Nat) = 0); decide) | (show ¬ ((2 : Nat) = 0); decide) | (show ¬ ((3 : Nat) = 0); decide) | (show ¬ ((2 : Nat) = 1); decide) | (show ¬ ((3 : Nat) = 1); decide) | (show ¬ ((3 : Nat) = 2); decide)), brn_neg _ _ (by first | decide | (show ¬ ((1 : Nat) = 0); decide) | (show ¬ ((2 : Nat) = 0); decide) | (show ¬ ((3 : Nat) = 0); decide) | (show ¬ ((2 : Nat) = 1); decide) | (show ¬ ((3 : Nat) = 1); decide) | (show ¬ ((3 : Nat) = 2); decide)), brn_pos _ _ rfl]
    · refine ⟨-3, ?_, by decide⟩
      unfold F_L_tell
      rw [hG, bnd_some, brn_neg _ _ (by first | decide | (show ¬ ((1 : Nat) = 0); decide) | (show ¬ ((2 : Nat) = 0); decide) | (show ¬ ((3 : Nat) = 0); decide) | (show ¬ ((2 : Nat) = 1); decide) | (show ¬ ((3 : Nat) = 1); decide) | (show ¬ ((3 : Nat) = 2); decide)), brn_neg _ _ (by first | decide | (show ¬ ((1 : Nat) = 0); decide) | (show ¬ ((2 : Nat) = 0); decide) | (show ¬ ((3 : Nat) = 0); decide) | (show ¬ ((2 : Nat) = 1); decide) | (show ¬ ((3 : Nat) = 1); decide) | (show ¬ ((3 : Nat) = 2); decide)), brn_neg _ _ (by first | decide | (show ¬ ((1 : Nat) = 0); decide) | (show ¬ ((2 : Nat) = 0); decide) | (show ¬ ((3 : Nat) = 0); decide) | (show ¬ ((2 : Nat) = 1); decide) | (show ¬ ((3 : Nat) = 1); decide) | (show ¬ ((3 : Nat) = 2); decide)), brn_pos _ _ rfl]
/-- a text run: its letters, then run -/
theorem ch_runs (hR : St b σ π n e x y) (hb : 0 ≤ b) (hb2 : b < 800000) : CH b σ π n e (F_L_runs x) := by
  refine CH_of hR.1.1.r (om_run hR hb hb2) (fun v x' hG => ⟨v, ?_, fun h => (Nn_pos h).1⟩) (fun k v x' k0 ⟨t, hm⟩ hG => ?_)
  · unfold F_L_runs
    rw [hG, bnd_some, brn_pos _ _ rfl]
  · rcases in3 hm k0 with rfl | rfl
    · refine ⟨-1, ?_, by decide⟩
      unfold F_L_runs
      rw [hG, bnd_some, brn_neg _ _ (by first | decide | (show ¬ ((1 : Nat) = 0); decide) | (show ¬ ((2 : Nat) = 0); decide) | (show ¬ ((3 : Nat) = 0); decide) | (show ¬ ((2 : Nat) = 1); decide) | (show ¬ ((3 : Nat) = 1); decide) | (show ¬ ((3 : Nat) = 2); decide)), brn_pos _ _ rfl]
    · refine ⟨-2, ?_, by decide⟩
      unfold F_L_runs
      rw [hG, bnd_some, brn_neg _ _ (by first | decide | (show ¬ ((1 : Nat) = 0); decide) | (show ¬ ((2 : Nat) = 0); decide) | (show ¬ ((3 : Nat) = 0); decide) | (show ¬ ((2 : Nat) = 1); decide) | (show ¬ ((3 : Nat) = 1); decide) | (show ¬ ((3 : Nat) = 2); decide)), brn_neg _ _ (by first | decide | (show ¬ ((1 : Nat) = 0); decide) | (show ¬ ((2 : Nat) = 0); decide) | (show ¬ ((3 : Nat) = 0); decide) | (show ¬ ((2 : Nat) = 1); decide) | (show ¬ ((3 : Nat) = 1); decide) | (show ¬ ((3 : Nat) = 2); decide)), brn_pos _ _ rfl]
theorem os_append (hR : St b σ π n e x y) (p1 : Int32) : ∃ v x2 y2, F_L_append p1 x = some (v, x2) ∧ St (b + 300) σ π n e x2 y2 := by
  obtain ⟨⟨hw, hs, T⟩, hK, hPP, hQ, ⟨hE, m, m60, h32, h9, hr⟩, hS⟩ := id hR
  by_cases q : m < 60
  · obtain ⟨x', y', w, g1, -, g3, -, -⟩ := om_append hR p1 h32 q
    refine ⟨I ((m + 1 : Nat) : Int), x', y', ?_, g3⟩
    unfold F_L_append
    rw [g1, bnd_some, brn_pos _ _ rfl]
  · have e : m = 60 := by omega
    subst e
    have hG : ∀ q2, F_X11_append p1 (I ((60 : Nat) : Int)) q2 = some (5, 0, I ((60 : Nat) : Int), q2) := by
      intro q2
      unfold F_X11_append J_X11_append_15 F_X3_isFull
      rw [brn_neg _ _ (by first | decide | (show ¬ ((1 : Nat) = 0); decide) | (show ¬ ((2 : Nat) = 0); decide) | (show ¬ ((3 : Nat) = 0); decide) | (show ¬ ((2 : Nat) = 1); decide) | (show ¬ ((3 : Nat) = 1); decide) | (show ¬ ((3 : Nat) = 2); decide)), bnd_some, brn_neg _ _ (by first | decide | (show ¬ ((1 : Nat) = 0); decide) | (show ¬ ((2 : Nat) = 0); decide) | (show ¬ ((3 : Nat) = 0); decide) | (show ¬ ((2 : Nat) = 1); decide) | (show ¬ ((3 : Nat) = 1); decide) | (show ¬ ((3 : Nat) = 2); decide)), show F_X11_demandReady 0 = some 5 from x_dRf, bnd_some, brn_neg _ _ (by first | decide | (show ¬ ((1 : Nat) = 0); decide) | (show ¬ ((2 : Nat) = 0); decide) | (show ¬ ((3 : Nat) = 0); decide) | (show ¬ ((2 : Nat) = 1); decide) | (show ¬ ((3 : Nat) = 1); decide) | (show ¬ ((3 : Nat) = 2); decide))]
    unfold F_L_append G_append
    rw [h32, hG, bnd_some, bnd_some]
    exact ⟨_, _, y, rfl, ⟨⟨hw.mono (by omega), hs, T⟩, hK.mono (by omega), hPP.mono (by omega), hQ, ⟨hE, 60, by omega, rfl, h9, hr⟩, hS⟩⟩
end CHG
