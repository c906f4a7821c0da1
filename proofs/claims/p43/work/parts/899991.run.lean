/-! ===== a text that undone lays on the sheet, run ===== -/
section RUNT
variable {b : Int} {σ π : Nat → Int} {n e : Nat} {x : XVal} {y : MVal}
theorem CH.mono2 {F : Option (Int32 × XVal)} {b c : Int} (h : ∃ v x' y', F = some (v, x') ∧ ((v < 0 ∧ St b σ π n e x' y') ∨ (0 ≤ v ∧ ∃ σ', St b σ' (pushP n σ π) (if n = 8 then 8 else n + 1) ((e + 1) % 8) x' y'))) (hb : b ≤ c) : ∃ v x' y', F = some (v, x') ∧ ((v < 0 ∧ St c σ π n e x' y') ∨ (0 ≤ v ∧ ∃ σ', St c σ' (pushP n σ π) (if n = 8 then 8 else n + 1) ((e + 1) % 8) x' y')) := by
  obtain ⟨v, x', y', h1, h2 | ⟨h2, σ', h3⟩⟩ := h
  · exact ⟨v, x', y', h1, Or.inl ⟨h2.1, h2.2.mono hb⟩⟩
  · exact ⟨v, x', y', h1, Or.inr ⟨h2, σ', h3.mono hb⟩⟩
theorem run_2 {l : List Int32} (hl : l.length ≤ 25) (hA : ∀ z ∈ l, asc z) : ∀ (r k f : Nat) (b : Int) (x : XVal) (y : MVal), k + r = l.length → r < f → 0 ≤ b → b + 300 * r < 780000 → St b σ π n e x y →
    ∃ v x' y', L_L_run_2 l.length (tFn l) f (I k) x = some (v, x') ∧ ((v < 0 ∧ St (b + 300 * r + 9000) σ π n e x' y') ∨ (0 ≤ v ∧ ∃ σ', St (b + 300 * r + 9000) σ' (pushP n σ π) (if n = 8 then 8 else n + 1) ((e + 1) % 8) x' y')) := by
  intro r
  induction r with
  | zero =>
    intro k f b x y hk hf h0 h1 hR
    obtain ⟨f, rfl⟩ : ∃ g, f = g + 1 := ⟨f - 1, by omega⟩
    obtain ⟨v, x', y', g1, g2⟩ := CH.mono2 (ch_runs hR h0 (by omega)) (c := b + 300 * ((0 : Nat) : Int) + 9000) (by omega)
    refine ⟨v, x', y', ?_, g2⟩
    rw [L_L_run_2, oN, brn_pos _ _ (by rw [I_le (by omega) (by omega) (by omega) (by omega)]; omega), g1, bnd_some]
  | succ r ih =>
    intro k f b x y hk hf h0 h1 hR
    obtain ⟨f, rfl⟩ : ∃ g, f = g + 1 := ⟨f - 1, by omega⟩
    have ecl : (I (k : Int)).toNatClampNeg = k := by rw [I_cl (by omega) (by omega)]; omega
    have em : l.getD k 0 ∈ l := by
      rw [List.getD_eq_getElem?_getD, List.getElem?_eq_getElem (by omega)]
      exact List.getElem_mem _
    have az := hA _ em
    have et : tFn l (I (k : Int)).toNatClampNeg = l.getD k 0 := by rw [ecl]; rfl
    obtain ⟨w, x1, y1, z1, R1⟩ := os_append hR (l.getD k 0)
    rw [L_L_run_2, oN, brn_neg _ _ (by rw [I_le (by omega) (by omega) (by omega) (by omega)]; omega), grd_pos _ (by rw [lit_0, I_lt (by omega) (by omega) (by omega) (by omega)]; omega), grd_pos _ (by rw [I_lt (by omega) (by omega) (by omega) (by omega)]; omega), grd_pos _ (by rw [I_inb (by omega) (by omega)]; omega), et, asc_byte az, grd_pos _ (asc_nar az), z1, bnd_some, kk_I]
    by_cases q : w = I ((k + 1 : Nat) : Int)
    · rw [brn_pos _ _ q]
      exact CH.mono2 (ih (k + 1) f (b + 300) x1 y1 (by omega) (by omega) (by omega) (by omega) R1) (by omega)
    · rw [brn_neg _ _ q]
      exact ⟨-9, x1, y1, rfl, Or.inl ⟨by decide, R1.mono (by omega)⟩⟩
theorem unT_ok {c d : Int} (h2 : 0 ≤ d ∧ d < 2147483648) : (unT (I c) (I d)).length ≤ 25 ∧ (∀ z ∈ unT (I c) (I d), asc z) ∧ isDg (rmI (I d) 66) ∧ isDg (rmI (I d) 16) ∧ isDg (rmI (I d) 64) := by
  have e66 : rmI (I d) 66 = I (d % 66) := by unfold rmI; rw [show (66 : Int32) = I 66 from rfl, I_rem (by omega) (by omega) (by omega) (by omega)]
  have e16 : rmI (I d) 16 = I (d % 16) := by unfold rmI; rw [show (16 : Int32) = I 16 from rfl, I_rem (by omega) (by omega) (by omega) (by omega)]
  have e64 : rmI (I d) 64 = I (d % 64) := by unfold rmI; rw [lit_64, I_rem (by omega) (by omega) (by omega) (by omega)]
  have d66 := dg_I (z := d % 66) (by omega) (by omega)
  have d16 := dg_I (z := d % 16) (by omega) (by omega)
  have d64 := dg_I (z := d % 64) (by omega) (by omega)
  have ln : ∀ k : Nat, (dgl k).length ≤ 2 := fun k => by rw [dgl_len]; exact (dn_in k).2
  have at_ : ∀ i : Nat, i < 9 → ∀ z ∈ tB i, asc z := by
    have key : ∀ i : Nat, i < 9 → ∀ z ∈ tB i, z.toNatClampNeg < 128 ∧ z = nI z.toNatClampNeg := by decide +kernel
    intro i hi z hz
    have := key i hi z hz
    exact ⟨_, this.1, this.2⟩
  rw [← e66] at d66
  rw [← e16] at d16
  rw [← e64] at d64
  have l6 : (tB 6).length = 11 := rfl
  have l7 : (tB 7).length = 4 := rfl
  have l8 : (tB 8).length = 2 := rfl
  have l3 : (tB 3).length = 0 := rfl
  have n1 := ln (rmI (I d) 66).toNatClampNeg
  have n2 := ln (rmI (I d) 16).toNatClampNeg
  have n3 := ln (rmI (I d) 64).toNatClampNeg
  have aA : ∀ z ∈ unA (I d), asc z := by
    intro z hz
    unfold unA at hz
    rw [List.nil_append] at hz
    rcases List.mem_append.mp hz with q | q
    · exact at_ 6 (by omega) z q
    · exact asc_dgl d66.2 z q
  have lA : (unA (I d)).length ≤ 13 := by
    unfold unA
    rw [List.nil_append, List.length_append]
    omega
  have aM : (∀ z ∈ unM (I c) (I d), asc z) ∧ (unM (I c) (I d)).length ≤ 6 := by
    unfold unM
    by_cases q : (11 : Int32) ≤ rmI (I c) 22
    · rw [if_pos q]
      unfold unB
      rw [List.nil_append]
      refine ⟨fun z hz => ?_, by rw [List.length_append]; omega⟩
      rcases List.mem_append.mp hz with q | q
      · exact at_ 7 (by omega) z q
      · exact asc_dgl d16.2 z q
    · rw [if_neg q]
      exact ⟨at_ 3 (by omega), by omega⟩
  refine ⟨?_, ?_, d66, d16, d64⟩
  · unfold unT
    rw [List.length_append, List.length_append, List.length_append]
    have := aM.2
    omega
  · intro z hz
    unfold unT at hz
    rcases List.mem_append.mp hz with q | q
    · rcases List.mem_append.mp q with q | q
      · rcases List.mem_append.mp q with q | q
        · exact aA z q
        · exact aM.1 z q
      · exact at_ 8 (by omega) z q
    · exact asc_dgl d64.2 z q
theorem ch_text (hR : St b σ π n e x y) (hb : 0 ≤ b) (hb2 : b < 700000) {c d : Int} (h2 : 0 ≤ d ∧ d < 2147483648) : ∃ v x' y', F_sg_undone (I c) (I d) x = some (v, x') ∧ ((v < 0 ∧ St (b + 17000) σ π n e x' y') ∨ (0 ≤ v ∧ ∃ σ', St (b + 17000) σ' (pushP n σ π) (if n = 8 then 8 else n + 1) ((e + 1) % 8) x' y')) := by
  obtain ⟨t1, t2, t3⟩ := unT_ok (c := c) h2
  unfold F_sg_undone F_L_run
  rw [grd_pos _ t3]
  exact CH.mono2 (run_2 t1 t2 (unT (I c) (I d)).length 0 26 b x y (by omega) (by omega) hb (by omega) hR) (by omega)
end RUNT
