theorem st_7 (bl : Nat → Int32) {s : Nat} (hs : s < 64) : ∃ a, F_L_steps (I s) bl = L_L_steps_36 (I s) bl 66 1 a ∧ ∀ c : Nat, c < 64 → a c = I (if c = s then 0 else 1000) := by
  have go : ∀ (r k f : Nat) (a : Nat → Int32), k + r = 64 → r < f → (∀ c : Nat, c < k → a c = I (if c = s then 0 else 1000)) → ∃ a', L_L_steps_7 (I s) bl f (I k) a = L_L_steps_36 (I s) bl 66 1 a' ∧ ∀ c : Nat, c < 64 → a' c = I (if c = s then 0 else 1000) := by
    intro r
    induction r with
    | zero =>
      intro k f a hk hf ha
      obtain ⟨f, rfl⟩ : ∃ g, f = g + 1 := ⟨f - 1, by omega⟩
      refine ⟨a, ?_, fun c hc => ha c (by omega)⟩
      rw [L_L_steps_7, brn_pos _ _ (by rw [lit_64, I_le (by omega) (by omega) (by omega) (by omega)]; omega)]
    | succ r ih =>
      intro k f a hk hf ha
      obtain ⟨f, rfl⟩ : ∃ g, f = g + 1 := ⟨f - 1, by omega⟩
      have ecl : (I (k : Int)).toNatClampNeg = k := by rw [I_cl (by omega) (by omega)]; omega
      obtain ⟨a', g1, g2⟩ := ih (k + 1) f (upd a k (I (if k = s then 0 else 1000))) (by omega) (by omega) (fun c hc => by
        unfold upd
        by_cases e : c = k
        · rw [if_pos e, e]
        · rw [if_neg e]; exact ha c (by omega))
      refine ⟨a', ?_, g2⟩
      rw [L_L_steps_7, brn_neg _ _ (by rw [lit_64, I_le (by omega) (by omega) (by omega) (by omega)]; omega)]
      unfold J_L_steps_27
      rw [grd_pos _ (by rw [I_inb (by omega) (by omega)]; omega), grd_pos _ (by rw [I_inb (by omega) (by omega)]; omega), ecl, kk_I]
      by_cases e : k = s
      · rw [if_pos e] at g1
        rw [brn_pos _ _ (by rw [e])]
        exact g1
      · rw [if_neg e] at g1
        rw [brn_neg _ _ (by rw [I_eq (by omega) (by omega) (by omega) (by omega)]; omega)]
        exact g1
  unfold F_L_steps
  exact go 64 0 65 (fun _ => 0) (by omega) (by omega) (fun c hc => by omega)
