/-! ===== rings ===== -/
theorem WF_ring {b : Int} {σ τ : Nat → Int} (h : WF b σ) (hr : ∀ k, InR (τ k)) (he : ∀ k : Nat, k < 147 → (k < 5 ∨ (13 ≤ k ∧ k < 77) ∨ (77 ≤ k ∧ k < 127 ∧ (k - 77) % 5 < 3) ∨ (127 ≤ k ∧ k < 139) ∨ (139 ≤ k ∧ (k - 139) % 2 = 0)) → τ k = σ k) (hlook : 0 ≤ τ 8 ∧ τ 8 ≤ 10) (hsums : (0 ≤ τ 1 ∧ τ 1 ≤ b) ∧ (0 ≤ τ 5 ∧ τ 5 ≤ b) ∧ (0 ≤ τ 6 ∧ τ 6 ≤ b) ∧ (0 ≤ τ 7 ∧ τ 7 ≤ b) ∧ (∀ k : Nat, k < 4 → 0 ≤ τ (9 + k) ∧ τ (9 + k) ≤ b) ∧ τ 9 + τ 10 + τ 11 + τ 12 = τ 5 + τ 6) (hhouse1 : ∀ i : Nat, (i : Int) < τ 2 → (0 ≤ τ (77 + 5 * i) ∧ τ (77 + 5 * i) ≤ 63) ∧ (0 ≤ τ (78 + 5 * i) ∧ τ (78 + 5 * i) ≤ 23) ∧ (0 ≤ τ (79 + 5 * i) ∧ τ (79 + 5 * i) ≤ 23) ∧ (0 ≤ τ (80 + 5 * i) ∧ τ (80 + 5 * i) ≤ b) ∧ (0 ≤ τ (81 + 5 * i) ∧ τ (81 + 5 * i) ≤ b)) (hpost1 : ∀ j : Nat, (j : Int) < τ 4 → (0 ≤ τ (139 + 2 * j) ∧ τ (139 + 2 * j) ≤ 63) ∧ -1 ≤ τ (140 + 2 * j) ∧ τ (140 + 2 * j) ≤ 14) : WF b τ := by
  have gn := h.n
  have gm := h.m
  have gq := h.q
  refine ⟨hr, ?_, ?_, ?_, ?_, hlook, hsums, ?_, ⟨hhouse1, ?_⟩, ⟨?_, ?_⟩, ⟨hpost1, ?_⟩⟩
  · rw [he 0 (by omega) (by omega)]; exact h.hour
  · rw [he 2 (by omega) (by omega)]; exact h.n
  · rw [he 3 (by omega) (by omega)]; exact h.m
  · rw [he 4 (by omega) (by omega)]; exact h.q
  · intro c hc
    rw [he (13 + c) (by omega) (by omega)]
    exact h.blk hc
  · intro i j hi hj g
    rw [he 2 (by omega) (by omega)] at hi hj
    rw [he (77 + 5 * i) (by omega) (by omega), he (77 + 5 * j) (by omega) (by omega)] at g
    exact h.one hi hj g
  · intro i hi
    rw [he 3 (by omega) (by omega)] at hi
    rw [he (127 + 3 * i) (by omega) (by omega), he (128 + 3 * i) (by omega) (by omega), he (129 + 3 * i) (by omega) (by omega)]
    exact h.hall hi
  · intro i j hi hj n g
    rw [he 3 (by omega) (by omega)] at hi hj
    rw [he (127 + 3 * i) (by omega) (by omega), he (127 + 3 * j) (by omega) (by omega)] at g
    rw [he (128 + 3 * i) (by omega) (by omega), he (129 + 3 * i) (by omega) (by omega), he (128 + 3 * j) (by omega) (by omega), he (129 + 3 * j) (by omega) (by omega)]
    exact h.apart hi hj n g
  · intro i j hi hj g
    rw [he 4 (by omega) (by omega)] at hi hj
    rw [he (139 + 2 * i) (by omega) (by omega), he (139 + 2 * j) (by omega) (by omega)] at g
    exact h.oneP hi hj g
theorem TR_ring {b : Int} {σ τ : Nat → Int} {v : TVal} (h : WF b σ) (T : TR σ v) (he : ∀ k : Nat, k < 147 → (k < 5 ∨ (13 ≤ k ∧ k < 77) ∨ (77 ≤ k ∧ k < 127 ∧ (k - 77) % 5 < 3) ∨ (127 ≤ k ∧ k < 139) ∨ (139 ≤ k ∧ (k - 139) % 2 = 0)) → τ k = σ k) {i2 i3 i4 i5 : Int32} {r3 r4 r9 r11 : Nat → Int32} (hi2 : i2 = I (τ 8 - 1)) (hi3 : i3 = I (τ 5)) (hi4 : i4 = I (τ 6)) (hi5 : i5 = I (τ 7)) (a3 : AR r3 (fun i => τ (80 + 5 * i)) (τ 2)) (a4 : AR r4 (fun i => τ (81 + 5 * i)) (τ 2)) (a9 : AR r9 (fun i => τ (140 + 2 * i)) (τ 4)) (a11 : AR r11 (fun k => τ (9 + k)) 4) : TR τ (tvMk (v.1 0) (v.1 1) i2 i3 i4 i5 (v.1 6) (v.1 7) (v.1 8) (v.2 0) (v.2 1) (v.2 2) r3 r4 (v.2 5) (v.2 6) (v.2 7) (v.2 8) r9 (v.2 10) r11) := by
  have gn := h.n
  have gm := h.m
  have gq := h.q
  have T1 := T.1
  refine TR.mk ?_ ?_ hi2 hi3 hi4 hi5 ?_ ?_ ?_ ?_ ?_ ?_ a3 a4 ?_ ?_ ?_ ?_ a9 ?_ a11
  · rw [he 0 (by omega) (by omega)]; exact T1.1
  · rw [he 1 (by omega) (by omega)]; exact T1.2.1
  · rw [he 2 (by omega) (by omega)]; exact T1.2.2.2.2.2.2.1
  · rw [he 3 (by omega) (by omega)]; exact T1.2.2.2.2.2.2.2.1
  · rw [he 4 (by omega) (by omega)]; exact T1.2.2.2.2.2.2.2.2
  · rw [he 2 (by omega) (by omega)]; exact AR_cong T.a0 (by omega) (fun i hi => (he _ (by omega) (by omega)).symm)
  · rw [he 2 (by omega) (by omega)]; exact AR_cong T.a1 (by omega) (fun i hi => (he _ (by omega) (by omega)).symm)
  · rw [he 2 (by omega) (by omega)]; exact AR_cong T.a2 (by omega) (fun i hi => (he _ (by omega) (by omega)).symm)
  · rw [he 3 (by omega) (by omega)]; exact AR_cong T.a5 (by omega) (fun i hi => (he _ (by omega) (by omega)).symm)
  · rw [he 3 (by omega) (by omega)]; exact AR_cong T.a6 (by omega) (fun i hi => (he _ (by omega) (by omega)).symm)
  · rw [he 3 (by omega) (by omega)]; exact AR_cong T.a7 (by omega) (fun i hi => (he _ (by omega) (by omega)).symm)
  · rw [he 4 (by omega) (by omega)]; exact AR_cong T.a8 (by omega) (fun i hi => (he _ (by omega) (by omega)).symm)
  · exact AR_cong T.a10 (by omega) (fun i hi => (he _ (by omega) (by omega)).symm)
section RNG
variable {b : Int} {σ : Nat → Int} {v : TVal}
/-- a house hears a bell of the kind k -/
def hearS (σ : Nat → Int) (j : Nat) (k : Int) : Nat → Int := U (U (U σ (9 + k).toNat (σ (9 + k).toNat + 1)) (80 + 5 * j) (σ (80 + 5 * j) + 1)) (81 + 5 * j) (σ (81 + 5 * j) + (if k = 3 then 1 else 0))
theorem m_hears (h : WF b σ) {j : Nat} (hj : (j : Int) < σ 2) {x y : Int} (h3 : 0 ≤ x) (h4 : x ≤ 9) (h5 : 0 ≤ y) (h6 : y ≤ 9) (h7 : 0 < x + y) : F_X12_hears (I j) (I x) (I y) (J σ) = some (I (kd σ j (σ 0) x y), J (hearS σ j (kd σ j (σ 0) x y))) := by
  have hn := h.n
  have hh := h.hour
  have kb := kd_in (σ := σ) (i := j) (h := σ 0) h3 h5 h7
  have km := m_kind h hj hh.1 hh.2 h3 h4 h5 h6
  obtain ⟨k, hk⟩ : ∃ k, k = kd σ j (σ 0) x y := ⟨_, rfl⟩
  rw [← hk] at kb km ⊢
  have i3 : (77 + 5 * (j : Int) + 3).toNat = 80 + 5 * j := by omega
  have i4 : (77 + 5 * (j : Int) + 4).toNat = 81 + 5 * j := by omega
  have c0 : (0 : Int32).toNatClampNeg = 0 := by decide
  have a3 : F_X12_at (I j) 3 = some (I (77 + 5 * j + 3)) := by
    unfold F_X12_at
    rw [lit_77, lit_5, lit_3, I_mul, I_add, I_add]
  have a4 : F_X12_at (I j) 4 = some (I (77 + 5 * j + 4)) := by
    unfold F_X12_at
    rw [lit_77, lit_5, lit_4, I_mul, I_add, I_add]
  have e9 : (9 : Int32) + I k = I (9 + k) := by rw [lit_9, I_add]
  have l9 : (I (9 + k)).toNatClampNeg = (9 + k).toNat := I_cl (by omega) (by omega)
  have l3 : (I (77 + 5 * (j : Int) + 3)).toNatClampNeg = 80 + 5 * j := by rw [I_cl (by omega) (by omega), i3]
  have l4 : (I (77 + 5 * (j : Int) + 4)).toNatClampNeg = 81 + 5 * j := by rw [I_cl (by omega) (by omega), i4]
  have b9 : inb (I (9 + k)) 147 := by rw [I_inb (by omega) (by omega)]; omega
  have b3 : inb (I (77 + 5 * (j : Int) + 3)) 147 := by rw [I_inb (by omega) (by omega)]; omega
  have b4 : inb (I (77 + 5 * (j : Int) + 4)) 147 := by rw [I_inb (by omega) (by omega)]; omega
  unfold F_X12_hears J_X12_hears_65
  rw [grd_pos _ (by decide), c0, J_at, km, bnd_some, e9, grd_pos _ b9, grd_pos _ b9, a3, bnd_some, grd_pos _ b3, grd_pos _ b3, a4, bnd_some, grd_pos _ b4, l9, l3, J_at, lit_1, I_add, J_upd, J_at, I_add, J_upd]
  have u1 : U (U σ (9 + k).toNat (σ (9 + k).toNat + 1)) (80 + 5 * j) (U σ (9 + k).toNat (σ (9 + k).toNat + 1) (80 + 5 * j) + 1) (81 + 5 * j) = σ (81 + 5 * j) := by
    rw [U_ne _ _ (by omega), U_ne _ _ (by omega)]
  have u2 : U σ (9 + k).toNat (σ (9 + k).toNat + 1) (80 + 5 * j) = σ (80 + 5 * j) := U_ne _ _ (by omega)
  unfold hearS
  by_cases e : k = 3
  · subst e
    rw [brn_pos _ _ (by decide), grd_pos _ b4, if_pos rfl, l4, J_at, u1, u2, I_add, J_upd]
  · rw [brn_neg _ _ (by rw [lit_3, I_eq (by omega) (by omega) (by omega) (by omega)]; exact e), grd_pos _ b4, if_neg e, l4, J_at, u1, u2, lit_0, I_add, J_upd]
theorem x_hears (h : WF b σ) (T : TR σ v) {j : Nat} (hj : (j : Int) < σ 2) {x y : Int} (h3 : 0 ≤ x) (h4 : x ≤ 9) (h5 : 0 ≤ y) (h6 : y ≤ 9) (h7 : 0 < x + y) : F_X9_hearAt (I j) (I x) (I y) (I (σ 0)) (v.2 1) (v.2 2) (v.2 3) (v.2 4) (v.2 11) = some (I (kd σ j (σ 0) x y), upd (v.2 3) j (I (σ (80 + 5 * j) + 1)), (if kd σ j (σ 0) x y = 3 then upd (v.2 4) j (I (σ (81 + 5 * j) + 1)) else v.2 4), upd (v.2 11) (kd σ j (σ 0) x y).toNat (I (σ (9 + kd σ j (σ 0) x y).toNat + 1))) := by
  have hn := h.n
  have hh := h.hour
  have kb := kd_in (σ := σ) (i := j) (h := σ 0) h3 h5 h7
  have km := x_kind h T.a1 T.a2 hj hh.1 hh.2 h3 h4 h5 h6 h7
  obtain ⟨k, hk⟩ : ∃ k, k = kd σ j (σ 0) x y := ⟨_, rfl⟩
  rw [← hk] at kb km ⊢
  obtain ⟨c, rfl⟩ := Int.eq_ofNat_of_zero_le kb.1
  have p10 := fun (r : Nat → Int32) (z : Int32) => x_put (N := 10) (by decide) (a := r) (i := j) (by omega) z
  have p4 := fun (r : Nat → Int32) (z : Int32) => x_put (N := 4) (by decide) (a := r) (i := c) (by omega) z
  have q3 := x_at10 T.a3 hj hn.2
  have q4 := x_at10 T.a4 hj hn.2
  have q11 := x_at4 T.a11 (i := c) (by omega) (by omega)
  have e9 : (9 + (c : Int)).toNat = 9 + c := by omega
  unfold F_X9_hearAt J_X9_hearAt_29 F_X2_countRing F_X2_ringsAt F_X2_pranksAt
  rw [km, bnd_some, e9]
  by_cases e : (c : Int) = 3
  · rw [brn_pos _ _ (by rw [lit_3, I_eq (by omega) (by omega) (by omega) (by omega)]; exact e), if_pos e, q3, bnd_some, bnd_some, p10, bnd_some, brn_neg _ _ (by decide), q4, bnd_some, bnd_some, p10, bnd_some, bnd_some, q11, bnd_some, p4, bnd_some, lit_1, I_add, I_add, I_add]
    rfl
  · rw [brn_neg _ _ (by rw [lit_3, I_eq (by omega) (by omega) (by omega) (by omega)]; exact e), if_neg e, q3, bnd_some, bnd_some, p10, bnd_some, brn_pos _ _ (by decide), bnd_some, q11, bnd_some, p4, bnd_some, lit_1, I_add, I_add]
    rfl
/-- a house hears, and c (bells or echoes) is counted -/
theorem ring_step (h : WF b σ) (T : TR σ v) {j : Nat} (hj : (j : Int) < σ 2) {k : Int} (hk : 0 ≤ k ∧ k ≤ 3) {c : Nat} (hc : c = 5 ∨ c = 6) {r4 : Nat → Int32} (h4 : r4 = if k = 3 then upd (v.2 4) j (I (σ (81 + 5 * j) + 1)) else v.2 4) (hb : b < 1000000) :
    WF (b + 1) (U (hearS σ j k) c (σ c + 1)) ∧ TR (U (hearS σ j k) c (σ c + 1)) (tvMk (v.1 0) (v.1 1) (v.1 2) (if c = 5 then I (σ 5 + 1) else v.1 3) (if c = 6 then I (σ 6 + 1) else v.1 4) (v.1 5) (v.1 6) (v.1 7) (v.1 8) (v.2 0) (v.2 1) (v.2 2) (upd (v.2 3) j (I (σ (80 + 5 * j) + 1))) r4 (v.2 5) (v.2 6) (v.2 7) (v.2 8) (v.2 9) (v.2 10) (upd (v.2 11) k.toNat (I (σ (9 + k).toNat + 1)))) := by
  have hn := h.n
  have hs := h.sums
  have hl := h.look
  have hq := h.q
  obtain ⟨κ, rfl⟩ := Int.eq_ofNat_of_zero_le hk.1
  have e9 : (9 + (κ : Int)).toNat = 9 + κ := by omega
  rw [e9]
  obtain ⟨τ, hτ⟩ : ∃ τ, τ = U (hearS σ j κ) c (σ c + 1) := ⟨_, rfl⟩
  rw [← hτ]
  have he : ∀ m : Nat, m < 147 → (m < 5 ∨ (13 ≤ m ∧ m < 77) ∨ (77 ≤ m ∧ m < 127 ∧ (m - 77) % 5 < 3) ∨ (127 ≤ m ∧ m < 139) ∨ (139 ≤ m ∧ (m - 139) % 2 = 0)) → τ m = σ m := by
    intro m h1 h2
    rw [hτ]
    unfold hearS
    rw [U_ne _ _ (by omega), U_ne _ _ (by omega), U_ne _ _ (by omega), U_ne _ _ (by omega)]
  have hpo : ∀ m : Nat, 127 ≤ m → τ m = σ m := by
    intro m h1
    rw [hτ]
    unfold hearS
    rw [U_ne _ _ (by omega), U_ne _ _ (by omega), U_ne _ _ (by omega), U_ne _ _ (by omega)]
  have h78 : ∀ m : Nat, (7 = m ∨ 8 = m) → τ m = σ m := by
    intro m h1
    rw [hτ]
    unfold hearS
    rw [U_ne _ _ (by omega), U_ne _ _ (by omega), U_ne _ _ (by omega), U_ne _ _ (by omega)]
  have hc5 : τ 5 = if c = 5 then σ 5 + 1 else σ 5 := by
    rw [hτ]
    unfold hearS
    by_cases e : c = 5
    · rw [e, U_same, if_pos rfl]
    · rw [U_ne _ _ (by omega), U_ne _ _ (by omega), U_ne _ _ (by omega), U_ne _ _ (by omega), if_neg e]
  have hc6 : τ 6 = if c = 6 then σ 6 + 1 else σ 6 := by
    rw [hτ]
    unfold hearS
    by_cases e : c = 6
    · rw [e, U_same, if_pos rfl]
    · rw [U_ne _ _ (by omega), U_ne _ _ (by omega), U_ne _ _ (by omega), U_ne _ _ (by omega), if_neg e]
  have hkd : ∀ m : Nat, m < 4 → τ (9 + m) = if m = κ then σ (9 + κ) + 1 else σ (9 + m) := by
    intro m hm
    rw [hτ]
    unfold hearS
    rw [U_ne _ _ (by omega), U_ne _ _ (by omega), U_ne _ _ (by omega), e9]
    unfold U
    by_cases e : m = κ
    · rw [if_pos e, if_pos (by omega)]
    · rw [if_neg e, if_neg (by omega)]
  have h80 : ∀ i : Nat, τ (80 + 5 * i) = if i = j then σ (80 + 5 * j) + 1 else σ (80 + 5 * i) := by
    intro i
    rw [hτ]
    unfold hearS
    rw [U_ne _ _ (by omega), U_ne _ _ (by omega)]
    by_cases e : i = j
    · rw [if_pos e, e, U_same]
    · rw [if_neg e, U_ne _ _ (by omega), U_ne _ _ (by omega)]
  have h81 : ∀ i : Nat, τ (81 + 5 * i) = if i = j then σ (81 + 5 * j) + (if (κ : Int) = 3 then 1 else 0) else σ (81 + 5 * i) := by
    intro i
    rw [hτ]
    unfold hearS
    rw [U_ne _ _ (by omega)]
    by_cases e : i = j
    · rw [if_pos e, e, U_same]
    · rw [if_neg e, U_ne _ _ (by omega), U_ne _ _ (by omega), U_ne _ _ (by omega)]
  have k9 := hkd 0 (by omega)
  have k10 := hkd 1 (by omega)
  have k11 := hkd 2 (by omega)
  have k12 := hkd 3 (by omega)
  have hk4 := hs.2.2.2.2.1
  have g0 := hk4 0 (by omega)
  have g1 := hk4 1 (by omega)
  have g2 := hk4 2 (by omega)
  have g3 := hk4 3 (by omega)
  refine ⟨WF_ring (h.mono (by omega)) ?_ he ?_ ?_ ?_ ?_, TR_ring h T he ?_ ?_ ?_ ?_ ?_ ?_ ?_ ?_⟩
  · rw [hτ]
    have hj2 := h.house hj
    have hk5 := hk4 κ (by omega)
    refine U_r (U_r (U_r (U_r h.r ?_) ?_) ?_) ?_
    · rw [e9]; omega
    · omega
    · split <;> omega
    · rcases hc with rfl | rfl <;> omega
  · rw [h78 8 (Or.inr rfl)]; exact hl
  · rw [he 1 (by omega) (by omega), hc5, hc6, h78 7 (Or.inl rfl)]
    refine ⟨⟨hs.1.1, by omega⟩, ⟨by split <;> omega, by split <;> omega⟩, ⟨by split <;> omega, by split <;> omega⟩, ⟨hs.2.2.2.1.1, by omega⟩, fun m hm => ?_, ?_⟩
    · have := hk4 m hm
      have := hk4 κ (by omega)
      rw [hkd m hm]
      split <;> omega
    · rw [show (9 : Nat) = 9 + 0 from rfl, show (10 : Nat) = 9 + 1 from rfl, show (11 : Nat) = 9 + 2 from rfl, show (12 : Nat) = 9 + 3 from rfl, k9, k10, k11, k12]
      have hsum := hs.2.2.2.2.2
      have hκ : κ = 0 ∨ κ = 1 ∨ κ = 2 ∨ κ = 3 := by omega
      rcases hκ with rfl | rfl | rfl | rfl <;> rcases hc with rfl | rfl <;> simp <;> omega
  · intro i hi
    rw [he 2 (by omega) (by omega)] at hi
    have hi2 := h.house hi
    have hj2 := h.house hj
    rw [he (77 + 5 * i) (by omega) (by omega), he (78 + 5 * i) (by omega) (by omega), he (79 + 5 * i) (by omega) (by omega), h80, h81]
    refine ⟨hi2.1, hi2.2.1, hi2.2.2.1, ⟨by split <;> omega, by split <;> omega⟩, ⟨?_, ?_⟩⟩
    · split
      · split <;> omega
      · omega
    · split
      · split <;> omega
      · omega
  · intro i hi
    rw [he 4 (by omega) (by omega)] at hi
    rw [hpo _ (by omega), hpo _ (by omega)]
    exact h.post hi
  · rw [h78 8 (Or.inr rfl)]; exact T.1.2.2.1
  · rw [hc5]; split
    · rfl
    · exact T.1.2.2.2.1
  · rw [hc6]; split
    · rfl
    · exact T.1.2.2.2.2.1
  · rw [h78 7 (Or.inl rfl)]; exact T.1.2.2.2.2.2.1
  · rw [he 2 (by omega) (by omega)]; exact AR_put T.a3 (fun i hi => h80 i)
  · rw [he 2 (by omega) (by omega), h4]
    by_cases e : (κ : Int) = 3
    · rw [if_pos e]
      exact AR_put T.a4 (fun i hi => by rw [h81, if_pos e])
    · rw [if_neg e]
      exact AR_cong T.a4 (by omega) (fun i hi => by rw [h81, if_neg e]; split <;> simp_all)
  · rw [he 4 (by omega) (by omega)]; exact AR_cong T.a9 (by omega) (fun i hi => (hpo _ (by omega)).symm)
  · exact AR_put T.a11 (fun i hi => hkd i (by omega))
end RNG

