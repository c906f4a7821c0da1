/-! ===== ways: rows cleared, one step lowered ===== -/
theorem x_clear (a : Nat → Int32) : ∃ a', F_X10_clear 64 a = some a' ∧ ∀ i : Nat, i < 64 → a' i = I (-1) := by
  have go : ∀ (r k f : Nat) (c : Nat → Int32), k + r = 64 → r < f → (∀ i : Nat, i < k → c i = I (-1)) → ∃ a', L_X10_clear_2 64 f (I k) c = some a' ∧ ∀ i : Nat, i < 64 → a' i = I (-1) := by
    intro r
    induction r with
    | zero =>
      intro k f c hk hf hc
      obtain ⟨f, rfl⟩ : ∃ g, f = g + 1 := ⟨f - 1, by omega⟩
      obtain rfl : k = 64 := by omega
      exact ⟨c, by rw [L_X10_clear_2, brn_pos _ _ (by decide)], hc⟩
    | succ r ih =>
      intro k f c hk hf hc
      obtain ⟨f, rfl⟩ : ∃ g, f = g + 1 := ⟨f - 1, by omega⟩
      obtain ⟨a', h1, h2⟩ := ih (k + 1) f (upd c k (-1)) (by omega) (by omega) (fun i hi => by
        unfold upd
        by_cases e : i = k
        · rw [if_pos e, m1]
        · rw [if_neg e]
          exact hc i (by omega))
      refine ⟨a', ?_, h2⟩
      have ecl : (I (k : Int)).toNatClampNeg = k := by rw [I_cl (by omega) (by omega)]; omega
      rw [L_X10_clear_2, brn_neg _ _ (by rw [show Int32.ofNat 64 = I 64 from rfl, I_le (by omega) (by omega) (by omega) (by omega)]; omega), grd_pos _ (by rw [I_inb (by omega) (by omega)]; omega), ecl, lit_1, I_add]
      exact h1
  obtain ⟨a', h1, h2⟩ := go 64 0 100 a (by omega) (by omega) (fun i hi => by omega)
  exact ⟨a', h1, h2⟩
section LOW
variable {b : Int} {σ : Nat → Int}
/-- what one try of lowering does: E is the row, d the cell from, c the cell to -/
def lowS (σ E : Nat → Int) (d c : Nat) : Nat → Int := if 0 ≤ E d ∧ blkB σ c = false ∧ (E c = -1 ∨ E d + 1 < E c) then U E c (E d + 1) else E
theorem x_lowFrom (h : WF b σ) {k10 : Nat → Int32} (hk : AR k10 (fun c => σ (13 + c)) 64) {a : Nat → Int32} {E : Nat → Int} (ha : AR a E 64) {B : Int} (hB : B < 1000000) (hE : ∀ c : Nat, c < 64 → -1 ≤ E c ∧ E c ≤ B) {d c : Nat} (hd : d < 64) (hc : c < 64) :
    ∃ a', F_X10_lowerFrom (I d) (I c) k10 a = some (bI (decide (0 ≤ E d ∧ blkB σ c = false ∧ (E c = -1 ∨ E d + 1 < E c))), a') ∧ AR a' (lowS σ E d c) 64 := by
  have e1 := hE d hd
  have e2 := hE c hc
  have x1 := x_at64 ha (i := d) (by omega) (by omega)
  have x2 := x_at64 ha (i := c) (by omega) (by omega)
  have x3 := x_isBlocked h hk (c := (c : Int)) (by omega) (by omega)
  have x4 := fun z => x_put (N := 64) (by decide) (a := a) (i := c) (by omega) z
  unfold F_X10_lowerFrom J_X10_lowerFrom_51 lowS
  rw [x1, bnd_some, x2, bnd_some]
  by_cases q1 : E d = -1
  · refine ⟨a, ?_, ?_⟩
    · rw [brn_pos _ _ (by rw [q1, m1]), decide_eq_false (by omega)]
      rfl
    · rw [if_neg (by omega)]
      exact ha
  · rw [brn_neg _ _ (by rw [m1, I_eq (by omega) (by omega) (by omega) (by omega)]; exact q1), x3, bnd_some]
    cases q2 : blkB σ c
    · rw [brn_pos _ _ (by decide)]
      by_cases q3 : E c = -1
      · refine ⟨upd a c (I (E d + 1)), ?_, ?_⟩
        · rw [brn_pos _ _ (by rw [q3, m1]), x4, bnd_some, decide_eq_true ⟨by omega, rfl, Or.inl q3⟩, lit_1, I_add]
          rfl
        · rw [if_pos ⟨by omega, rfl, Or.inl q3⟩]
          exact AR_upd ha c _
      · by_cases q4 : E d + 1 < E c
        · refine ⟨upd a c (I (E d + 1)), ?_, ?_⟩
          · rw [brn_neg _ _ (by rw [m1, I_eq (by omega) (by omega) (by omega) (by omega)]; exact q3), brn_pos _ _ (by rw [lit_1, I_add, I_lt (by omega) (by omega) (by omega) (by omega)]; exact q4), x4, bnd_some, decide_eq_true ⟨by omega, rfl, Or.inr q4⟩, lit_1, I_add]
            rfl
          · rw [if_pos ⟨by omega, rfl, Or.inr q4⟩]
            exact AR_upd ha c _
        · refine ⟨a, ?_, ?_⟩
          · rw [brn_neg _ _ (by rw [m1, I_eq (by omega) (by omega) (by omega) (by omega)]; exact q3), brn_neg _ _ (by rw [lit_1, I_add, I_lt (by omega) (by omega) (by omega) (by omega)]; exact q4), decide_eq_false (fun q => q.2.2.elim q3 q4)]
            rfl
          · rw [if_neg (fun q => q.2.2.elim q3 q4)]
            exact ha
    · refine ⟨a, ?_, ?_⟩
      · rw [brn_neg _ _ (by decide), decide_eq_false (fun q => by cases q.2.1)]
        rfl
      · rw [if_neg (fun q => by cases q.2.1)]
        exact ha
theorem lowS_in {E : Nat → Int} {B : Int} (hE : ∀ c : Nat, c < 64 → -1 ≤ E c ∧ E c ≤ B) {d c : Nat} (hd : d < 64) : ∀ k : Nat, k < 64 → -1 ≤ lowS σ E d c k ∧ lowS σ E d c k ≤ B + 1 := by
  intro k hk
  have h1 := hE k hk
  have h2 := hE d hd
  unfold lowS
  split
  · unfold U
    split <;> omega
  · omega
theorem x_lowAlong (h : WF b σ) {k10 : Nat → Int32} (hk : AR k10 (fun c => σ (13 + c)) 64) {a : Nat → Int32} {E : Nat → Int} (ha : AR a E 64) {B : Int} (hB : B < 900000) (hE : ∀ c : Nat, c < 64 → -1 ≤ E c ∧ E c ≤ B) {d c : Nat} (hd : d < 64) (hc : c < 64) :
    ∃ a', F_X10_lowerAlong (I d) (I c) k10 a = some (bI (decide (0 ≤ E d ∧ blkB σ c = false ∧ (E c = -1 ∨ E d + 1 < E c)) || decide (0 ≤ lowS σ E d c c ∧ blkB σ d = false ∧ (lowS σ E d c d = -1 ∨ lowS σ E d c c + 1 < lowS σ E d c d))), a') ∧ AR a' (lowS σ (lowS σ E d c) c d) 64 := by
  obtain ⟨a1, h1, h2⟩ := x_lowFrom h hk ha (B := B) (by omega) hE hd hc
  obtain ⟨a2, h3, h4⟩ := x_lowFrom h hk h2 (B := B + 1) (by omega) (lowS_in hE hd) hc hd
  refine ⟨a2, ?_, h4⟩
  unfold F_X10_lowerAlong
  rw [brn_neg _ _ (by rw [m1, I_eq (by omega) (by omega) (by omega) (by omega)]; omega), h1, bnd_some, h3, bnd_some]
  generalize decide (0 ≤ E d ∧ blkB σ c = false ∧ (E c = -1 ∨ E d + 1 < E c)) = p
  generalize decide (0 ≤ lowS σ E d c c ∧ blkB σ d = false ∧ (lowS σ E d c d = -1 ∨ lowS σ E d c c + 1 < lowS σ E d c d)) = q
  cases p
  · rw [brn_pos _ _ (show bI false = 0 from rfl)]
    cases q
    · rw [brn_pos _ _ (show bI false = 0 from rfl)]
      rfl
    · rw [brn_neg _ _ (show ¬ bI true = 0 by decide)]
      rfl
  · rw [brn_neg _ _ (show ¬ bI true = 0 by decide)]
    cases q <;> rfl
end LOW
