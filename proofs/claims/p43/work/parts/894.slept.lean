/-! ===== slept ===== -/
section SLQ
variable {b : Int} {σ : Nat → Int} {x : XVal}
theorem dp_step (σ : Nat → Int) (r k : Nat) (d : Int) : dpL σ (r + 1) k d = dpL σ r (k + 1) (if slC σ k ≤ slC σ d then d else k) := rfl
theorem l_rings1 (h : WF b σ) (T : TR σ (xT x)) {k : Nat} (hk : k < 4) : F_L_rings (I (k : Int)) x = some (I (σ (9 + k))) := by
  rw [l_rings h T (by omega)]
  unfold sp_rings
  rw [if_pos (by omega), Int.toNat_natCast]
  rfl
theorem l_asl (h : WF b σ) (T : TR σ (xT x)) {t f : Int} (h1 : 0 ≤ t) (h2 : t ≤ 23) (hf : InR f) : F_L_asleep (I t) (I f) x = some (I (slC σ t)) := by
  rw [l_asleep h T (by omega) hf]
  unfold sp_asleep
  rw [if_pos ⟨h1, h2⟩]
  rfl
/-- the houses of an hour -/
theorem sl_29 (h : WF b σ) (T : TR σ (xT x)) (r16 : Int32 → Int32 → Int32 → Int32 → Int32 → Option Int32) (x2 x3 x4 : Int32) {t : Int} (h1 : 0 ≤ t) (h2 : t ≤ 23) : ∀ (r k f : Nat) (m : Int), (k : Int) + r = σ 2 → r < f → 0 ≤ m → m ≤ k →
    L_L_slept_29 x r16 f (I (σ 2)) x2 x3 x4 (I t) (I m) (I k) = brn (I (m + cnt (fun i => slB σ i t) r k) ≤ x3) (J_L_slept_81 x r16 x2 (I (σ 2)) x3 (x4 + I (m + cnt (fun i => slB σ i t) r k)) (I t) (I (m + cnt (fun i => slB σ i t) r k))) (J_L_slept_81 x r16 (I t) (I (σ 2)) x3 (x4 + I (m + cnt (fun i => slB σ i t) r k)) (I t) (I (m + cnt (fun i => slB σ i t) r k))) := by
  have hn := h.n
  intro r
  induction r with
  | zero =>
    intro k f m hk hf m0 m1
    obtain ⟨f, rfl⟩ : ∃ g, f = g + 1 := ⟨f - 1, by omega⟩
    rw [L_L_slept_29, brn_pos _ _ (by rw [I_le (by omega) (by omega) (by omega) (by omega)]; omega)]
    rw [show m + cnt (fun i => slB σ i t) 0 k = m from Int.add_zero m]
  | succ r ih =>
    intro k f m hk hf m0 m1
    obtain ⟨f, rfl⟩ : ∃ g, f = g + 1 := ⟨f - 1, by omega⟩
    rw [L_L_slept_29, brn_neg _ _ (by rw [I_le (by omega) (by omega) (by omega) (by omega)]; omega), l_sleeps h T (i := k) (by omega) h1 h2, bnd_some]
    unfold J_L_slept_53
    rw [kk_I, lit_0, lit_1, I_add, I_add]
    cases hb : slB σ k t
    · rw [if_neg (by decide), brn_pos _ _ (by decide), ih (k + 1) f (m + 0) (by omega) (by omega) (by omega) (by omega)]
      have e : m + 0 + cnt (fun i => slB σ i t) r (k + 1) = m + cnt (fun i => slB σ i t) (r + 1) k := by
        show _ = m + ((if slB σ k t then 1 else 0) + cnt (fun i => slB σ i t) r (k + 1))
        rw [hb, if_neg (by decide)]
        omega
      rw [e]
    · rw [if_pos rfl, brn_neg _ _ (by decide), ih (k + 1) f (m + 1) (by omega) (by omega) (by omega) (by omega)]
      have e : m + 1 + cnt (fun i => slB σ i t) r (k + 1) = m + cnt (fun i => slB σ i t) (r + 1) k := by
        show _ = m + ((if slB σ k t then 1 else 0) + cnt (fun i => slB σ i t) r (k + 1))
        rw [hb, if_pos rfl]
        omega
      rw [e]
/-- an hour -/
theorem sl_hr (h : WF b σ) (T : TR σ (xT x)) (r16 : Int32 → Int32 → Int32 → Int32 → Int32 → Option Int32) {k : Nat} (hk : k < 24) {d2 w S : Int} (hw0 : 0 ≤ w) (hw1 : w ≤ 10) : L_L_slept_29 x r16 11 (I (σ 2)) (I d2) (I w) (I S) (I k) (I 0) (I 0) = r16 (I (σ 2)) (I (if slC σ k ≤ w then d2 else k)) (I (if slC σ k ≤ w then w else slC σ k)) (I (S + slC σ k)) (I ((k + 1 : Nat) : Int)) := by
  have hn := h.n
  have hc := slC_in h k
  have e := sl_29 h T r16 (I d2) (I w) (I S) (t := k) (by omega) (by omega) (σ 2).toNat 0 11 0 (by omega) (by omega) (by omega) (by omega)
  rw [show (0 : Int) + cnt (fun i => slB σ i k) (σ 2).toNat 0 = slC σ k by rw [Int.zero_add]; rfl] at e
  refine Eq.trans e ?_
  unfold J_L_slept_81
  rw [lit_0, l_asl h T (by omega) (by omega) (by omega), lit_1, l_asl h T (by omega) (by omega) (by omega), ← lit_1, kk_I, I_add]
  by_cases q : slC σ k ≤ w
  · rw [brn_pos _ _ (by rw [I_le (by omega) (by omega) (by omega) (by omega)]; exact q), bnd_some, brn_pos _ _ rfl, bnd_some, brn_pos _ _ rfl, if_neg (by rw [I_lt (by omega) (by omega) (by omega) (by omega)]; omega), if_pos q, if_pos q]
  · rw [brn_neg _ _ (by rw [I_le (by omega) (by omega) (by omega) (by omega)]; exact q), bnd_some, brn_pos _ _ rfl, bnd_some, brn_pos _ _ rfl, if_pos (by rw [I_lt (by omega) (by omega) (by omega) (by omega)]; omega), if_neg q, if_neg q]
theorem sl_16 (h : WF b σ) (T : TR σ (xT x)) : ∀ (r k f : Nat) (d S : Int), k + r = 24 → r < f → 0 ≤ d → d ≤ 23 → 0 ≤ S → S ≤ 10 * k →
    L_L_slept_16 x f (I (σ 2)) (I (if slC σ d = 0 then -1 else d)) (I (slC σ d)) (I S) (I k) = L_L_slept_130 x 11 (I (σ 2)) (I (if slC σ (dpL σ r k d) = 0 then -1 else dpL σ r k d)) (I (slC σ (dpL σ r k d))) (I (S + sumI (fun t => slC σ t) r k)) (I 0) (I 0) (I 0) := by
  have hn := h.n
  intro r
  induction r with
  | zero =>
    intro k f d S hk hf d0 d1 S0 S1
    obtain ⟨f, rfl⟩ : ∃ g, f = g + 1 := ⟨f - 1, by omega⟩
    rw [L_L_slept_16, brn_pos _ _ (by rw [lit_24, I_le (by omega) (by omega) (by omega) (by omega)]; omega), lit_0]
    show _ = L_L_slept_130 x 11 (I (σ 2)) _ _ (I (S + 0)) (I 0) (I 0) (I 0)
    rw [Int.add_zero]
    rfl
  | succ r ih =>
    intro k f d S hk hf d0 d1 S0 S1
    obtain ⟨f, rfl⟩ : ∃ g, f = g + 1 := ⟨f - 1, by omega⟩
    have cd := slC_in h d
    have ck := slC_in h k
    rw [L_L_slept_16, brn_neg _ _ (by rw [lit_24, I_le (by omega) (by omega) (by omega) (by omega)]; omega), lit_0, sl_hr h T _ (by omega) cd.1 (by omega), dp_step]
    have e1 : (if slC σ k ≤ slC σ d then (if slC σ d = 0 then -1 else d) else (k : Int)) = (if slC σ (if slC σ k ≤ slC σ d then d else k) = 0 then -1 else (if slC σ k ≤ slC σ d then d else k)) := by
      by_cases q : slC σ k ≤ slC σ d
      · rw [if_pos q, if_pos q]
      · rw [if_neg q, if_neg q, if_neg (by omega)]
    have e2 : (if slC σ k ≤ slC σ d then slC σ d else slC σ k) = slC σ (if slC σ k ≤ slC σ d then d else k) := by
      by_cases q : slC σ k ≤ slC σ d
      · rw [if_pos q, if_pos q]
      · rw [if_neg q, if_neg q]
    rw [e1, e2, ih (k + 1) f _ (S + slC σ k) (by omega) (by omega) (by split <;> omega) (by split <;> omega) (by omega) (by omega)]
    rw [show S + slC σ k + sumI (fun t => slC σ t) r (k + 1) = S + sumI (fun t => slC σ t) (r + 1) k by show _ = S + (slC σ k + sumI (fun t => slC σ t) r (k + 1)); omega]
end SLQ
