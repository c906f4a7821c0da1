/-! ===== a ring, whole ===== -/
section RG2
variable {b : Int} {σ : Nat → Int} {v : TVal}
def rsS : Nat → Nat → (Nat → Int) → Nat → Int
  | 0, _, ρ => ρ
  | r + 1, k, ρ => rsS r (k + 1) (U ρ (140 + 2 * k) (-1))
theorem rsS_out : ∀ (r k : Nat) (ρ : Nat → Int) (m : Nat), (∀ j, k ≤ j → j < k + r → m ≠ 140 + 2 * j) → rsS r k ρ m = ρ m := by
  intro r
  induction r with
  | zero => intro k ρ m h; rfl
  | succ r ih =>
    intro k ρ m h
    rw [rsS, ih _ _ _ (fun j a b => h j (by omega) (by omega))]
    exact U_ne _ _ (h k (by omega) (by omega))
theorem rsS_in : ∀ (r k : Nat) (ρ : Nat → Int) (j : Nat), k ≤ j → j < k + r → rsS r k ρ (140 + 2 * j) = -1 := by
  intro r
  induction r with
  | zero => intro k ρ j h1 h2; omega
  | succ r ih =>
    intro k ρ j h1 h2
    rw [rsS]
    by_cases e : j = k
    · rw [rsS_out _ _ _ _ (fun i a b => by omega), e]
      exact U_same _ _ _
    · exact ih _ _ _ (by omega) (by omega)
theorem rsS_r : ∀ (r k : Nat) (ρ : Nat → Int), (∀ m, InR (ρ m)) → ∀ m, InR (rsS r k ρ m) := by
  intro r
  induction r with
  | zero => intro k ρ h m; exact h m
  | succ r ih =>
    intro k ρ h m
    rw [rsS]
    exact ih _ _ (U_r h (by omega)) m
theorem m_reset (p1 p2 p3 x4 th : Int32) : ∀ (r k f : Nat) (ρ : Nat → Int), (k : Int) + r = ρ 4 → ρ 4 ≤ 4 → r < f → L_X12_doRing_83 p1 p2 p3 f x4 (I k) th (J ρ) = J_X12_doRing_116 p1 p2 p3 x4 th (J (rsS r k ρ)) := by
  have c4 : (4 : Int32).toNatClampNeg = 4 := by decide
  intro r
  induction r with
  | zero =>
    intro k f ρ hk h4 hf
    obtain ⟨f, rfl⟩ : ∃ g, f = g + 1 := ⟨f - 1, by omega⟩
    rw [L_X12_doRing_83, grd_pos _ (by decide), c4, J_at, brn_pos _ _ (by rw [I_le (by omega) (by omega) (by omega) (by omega)]; omega), rsS]
  | succ r ih =>
    intro k f ρ hk h4 hf
    obtain ⟨f, rfl⟩ : ∃ g, f = g + 1 := ⟨f - 1, by omega⟩
    have e1 : (139 : Int32) + 2 * I k + 1 = I (140 + 2 * k) := by
      rw [lit_139, lit_2, lit_1, I_mul, I_add, I_add]
      exact congrArg I (by omega)
    have e2 : (I (140 + 2 * (k : Int))).toNatClampNeg = 140 + 2 * k := by rw [I_cl (by omega) (by omega)]; omega
    have u4 : U ρ (140 + 2 * k) (-1) 4 = ρ 4 := U_ne _ _ (by omega)
    rw [L_X12_doRing_83, grd_pos _ (by decide), c4, J_at, brn_neg _ _ (by rw [I_le (by omega) (by omega) (by omega) (by omega)]; omega), e1, grd_pos _ (by rw [I_inb (by omega) (by omega)]; omega), e2, m1, J_upd, rsS, lit_1, I_add]
    exact ih (k + 1) f _ (by rw [u4]; omega) (by rw [u4]; exact h4) (by omega)
theorem x_reset {n : Int} (hn : n ≤ 4) : ∀ (r k f : Nat) (a : Nat → Int32), (k : Int) + r = n → r < f → ∃ a2, L_X5_forgetTold_2 (I n) f (I k) a = some a2 ∧ ∀ i : Nat, a2 i = if k ≤ i ∧ (i : Int) < n then I (-1) else a i := by
  intro r
  induction r with
  | zero =>
    intro k f a hk hf
    obtain ⟨f, rfl⟩ : ∃ g, f = g + 1 := ⟨f - 1, by omega⟩
    refine ⟨a, ?_, fun i => by rw [if_neg (by omega)]⟩
    rw [L_X5_forgetTold_2, brn_pos _ _ (by rw [I_le (by omega) (by omega) (by omega) (by omega)]; omega)]
  | succ r ih =>
    intro k f a hk hf
    obtain ⟨f, rfl⟩ : ∃ g, f = g + 1 := ⟨f - 1, by omega⟩
    obtain ⟨a2, h1, h2⟩ := ih (k + 1) f (upd a k (-1)) (by omega) (by omega)
    refine ⟨a2, ?_, fun i => ?_⟩
    · rw [L_X5_forgetTold_2, brn_neg _ _ (by rw [I_le (by omega) (by omega) (by omega) (by omega)]; omega), x_put (N := 4) (by decide) (i := k) (by omega), bnd_some, lit_1, I_add]
      exact h1
    · rw [h2 i]
      unfold upd
      by_cases e : i = k
      · rw [if_neg (by omega), if_pos e, if_pos (by omega), m1]
      · rw [if_neg e]
        by_cases e2 : k ≤ i ∧ (i : Int) < n
        · rw [if_pos e2, if_pos (by omega)]
        · rw [if_neg e2, if_neg (by omega)]
/-- a ring that pranks: counted, the house kept, what was told forgotten -/
theorem prank_step (h : WF b σ) (T : TR σ v) {p : Nat} (hp : (p : Int) < σ 2) (hb : b < 1000000) {r9 : Nat → Int32} (h9 : ∀ i : Nat, r9 i = if 0 ≤ i ∧ (i : Int) < σ 4 then I (-1) else v.2 9 i) :
    WF (b + 1) (rsS (σ 4).toNat 0 (U (U σ 7 (σ 7 + 1)) 8 ((p : Int) + 1))) ∧ TR (rsS (σ 4).toNat 0 (U (U σ 7 (σ 7 + 1)) 8 ((p : Int) + 1))) (tvMk (v.1 0) (v.1 1) (I p) (v.1 3) (v.1 4) (I (σ 7 + 1)) (v.1 6) (v.1 7) (v.1 8) (v.2 0) (v.2 1) (v.2 2) (v.2 3) (v.2 4) (v.2 5) (v.2 6) (v.2 7) (v.2 8) r9 (v.2 10) (v.2 11)) := by
  have hn := h.n
  have hq := h.q
  have hs := h.sums
  obtain ⟨τ, hτ⟩ : ∃ τ, τ = rsS (σ 4).toNat 0 (U (U σ 7 (σ 7 + 1)) 8 ((p : Int) + 1)) := ⟨_, rfl⟩
  rw [← hτ]
  have h7 : τ 7 = σ 7 + 1 := by
    rw [hτ, rsS_out _ _ _ _ (fun j a b => by omega), U_ne _ _ (by omega)]
    exact U_same _ _ _
  have h8 : τ 8 = p + 1 := by
    rw [hτ, rsS_out _ _ _ _ (fun j a b => by omega)]
    exact U_same _ _ _
  have hk : ∀ m : Nat, m ≠ 7 → m ≠ 8 → (m < 140 ∨ (m - 139) % 2 = 0) → τ m = σ m := by
    intro m h1 h2 h3
    rw [hτ, rsS_out _ _ _ _ (fun j a b => by omega), U_ne _ _ h2, U_ne _ _ h1]
  have ht : ∀ i : Nat, (i : Int) < σ 4 → τ (140 + 2 * i) = -1 := by
    intro i hi
    rw [hτ]
    exact rsS_in _ _ _ _ (by omega) (by omega)
  have he : ∀ m : Nat, m < 147 → (m < 5 ∨ (13 ≤ m ∧ m < 77) ∨ (77 ≤ m ∧ m < 127 ∧ (m - 77) % 5 < 3) ∨ (127 ≤ m ∧ m < 139) ∨ (139 ≤ m ∧ (m - 139) % 2 = 0)) → τ m = σ m := fun m h1 h2 => hk m (by omega) (by omega) (by omega)
  refine ⟨WF_ring (h.mono (by omega)) ?_ he ?_ ?_ ?_ ?_, TR_ring h T he ?_ ?_ ?_ ?_ ?_ ?_ ?_ ?_⟩
  · rw [hτ]
    exact rsS_r _ _ _ (U_r (U_r h.r (by omega)) (by omega))
  · rw [h8]; omega
  · rw [he 1 (by omega) (by omega), hk 5 (by omega) (by omega) (by omega), hk 6 (by omega) (by omega) (by omega), h7, hk 9 (by omega) (by omega) (by omega), hk 10 (by omega) (by omega) (by omega), hk 11 (by omega) (by omega) (by omega), hk 12 (by omega) (by omega) (by omega)]
    refine ⟨⟨hs.1.1, by omega⟩, ⟨hs.2.1.1, by omega⟩, ⟨hs.2.2.1.1, by omega⟩, ⟨by omega, by omega⟩, fun m hm => ?_, hs.2.2.2.2.2⟩
    rw [hk (9 + m) (by omega) (by omega) (by omega)]
    have := hs.2.2.2.2.1 m hm
    omega
  · intro i hi
    rw [he 2 (by omega) (by omega)] at hi
    rw [he (77 + 5 * i) (by omega) (by omega), he (78 + 5 * i) (by omega) (by omega), he (79 + 5 * i) (by omega) (by omega), hk (80 + 5 * i) (by omega) (by omega) (by omega), hk (81 + 5 * i) (by omega) (by omega) (by omega)]
    have := h.house hi
    exact ⟨this.1, this.2.1, this.2.2.1, ⟨this.2.2.2.1.1, by omega⟩, ⟨this.2.2.2.2.1, by omega⟩⟩
  · intro i hi
    rw [he 4 (by omega) (by omega)] at hi
    rw [hk (139 + 2 * i) (by omega) (by omega) (by omega), ht i hi]
    exact ⟨(h.post hi).1, by omega, by omega⟩
  · rw [h8]; exact congrArg I (by omega)
  · rw [hk 5 (by omega) (by omega) (by omega)]; exact T.1.2.2.2.1
  · rw [hk 6 (by omega) (by omega) (by omega)]; exact T.1.2.2.2.2.1
  · rw [h7]
  · rw [he 2 (by omega) (by omega)]; exact AR_cong T.a3 (by omega) (fun i hi => (hk _ (by omega) (by omega) (by omega)).symm)
  · rw [he 2 (by omega) (by omega)]; exact AR_cong T.a4 (by omega) (fun i hi => (hk _ (by omega) (by omega) (by omega)).symm)
  · rw [he 4 (by omega) (by omega)]
    intro i hi
    show r9 i = I (τ (140 + 2 * i))
    rw [h9 i, if_pos ⟨by omega, hi⟩, ht i hi]
  · exact AR_cong T.a11 (by omega) (fun i hi => (hk _ (by omega) (by omega) (by omega)).symm)
/-- the other houses hear the ring in turn -/
theorem ring_loop {i : Nat} {x y : Int} (h3 : 0 ≤ x) (h4 : x ≤ 9) (h5 : 0 ≤ y) (h6 : y ≤ 9) (v : TVal) (z : Int32) : ∀ (r k f : Nat) (ρ : Nat → Int) (b : Int) (i3 : Int32) (w3 w4 w11 : Nat → Int32), WF b ρ → b + r < 1000000 → (i : Int) < ρ 2 → (k : Int) + r = ρ 2 → r < f → TR ρ (tvMk (v.1 0) (v.1 1) (v.1 2) (v.1 3) i3 (v.1 5) (v.1 6) (v.1 7) (v.1 8) (v.2 0) (v.2 1) (v.2 2) w3 w4 (v.2 5) (v.2 6) (v.2 7) (v.2 8) (v.2 9) (v.2 10) w11) →
    ∃ (τ : Nat → Int) (j3 : Int32) (u3 u4 u11 : Nat → Int32), L_X9_ringAt_50 (I i) (I x) (I y) (v.1 0) (v.1 6) (v.2 0) (v.2 1) (v.2 2) (v.1 7) (v.2 5) (v.2 6) (v.2 7) (v.1 8) f z (I k) (v.1 2) (v.1 3) i3 (v.1 5) w3 w4 (v.2 9) w11 = some (z, v.1 2, v.1 3, j3, v.1 5, u3, u4, v.2 9, u11) ∧ L_X12_doRing_119 (I i) (I x) (I y) f z (I k) 0 (J ρ) = some (z, 0, J τ) ∧ WF (b + r) τ ∧ TR τ (tvMk (v.1 0) (v.1 1) (v.1 2) (v.1 3) j3 (v.1 5) (v.1 6) (v.1 7) (v.1 8) (v.2 0) (v.2 1) (v.2 2) u3 u4 (v.2 5) (v.2 6) (v.2 7) (v.2 8) (v.2 9) (v.2 10) u11) := by
  have c2 : (2 : Int32).toNatClampNeg = 2 := by decide
  have c6 : (6 : Int32).toNatClampNeg = 6 := by decide
  intro r
  induction r with
  | zero =>
    intro k f ρ b i3 w3 w4 w11 hw hb hi hk hf T
    obtain ⟨f, rfl⟩ : ∃ g, f = g + 1 := ⟨f - 1, by omega⟩
    have hn := hw.n
    have t6 : v.1 6 = I (ρ 2) := T.1.2.2.2.2.2.2.1
    refine ⟨ρ, i3, w3, w4, w11, ?_, ?_, hw.mono (by omega), T⟩
    · rw [L_X9_ringAt_50]
      unfold F_X2_size
      rw [t6, bnd_some, brn_pos _ _ (by rw [I_le (by omega) (by omega) (by omega) (by omega)]; omega)]
    · rw [L_X12_doRing_119, grd_pos _ (by decide), c2, J_at, brn_pos _ _ (by rw [I_le (by omega) (by omega) (by omega) (by omega)]; omega)]
  | succ r ih =>
    intro k f ρ b i3 w3 w4 w11 hw hb hi hk hf T
    obtain ⟨f, rfl⟩ : ∃ g, f = g + 1 := ⟨f - 1, by omega⟩
    have hn := hw.n
    have hki : (k : Int) < ρ 2 := by omega
    have t0 : v.1 0 = I (ρ 0) := T.1.1
    have t4 : i3 = I (ρ 6) := T.1.2.2.2.2.1
    have t6 : v.1 6 = I (ρ 2) := T.1.2.2.2.2.2.2.1
    have t7 : v.1 7 = I (ρ 3) := T.1.2.2.2.2.2.2.2.1
    have ka := x_heardAt hw (TR.a0 T) (TR.a5 T) (TR.a6 T) (TR.a7 T) hi hki h3 h4 h5 h6
    have kb := m_echoes hw hi hki h3 h4 h5 h6
    have ks := x_shorts hw (TR.a0 T) hi hki h3 h4
    have kt := m_shortsAt hw hi hki h3 h4
    have sb := shA_in hw hi hki h3
    have kk : I (k : Int) + 1 = I ((k + 1 : Nat) : Int) := by rw [lit_1, I_add]; congr 1
    cases hc : ecB ρ i k x y
    · rw [hc, bI_f] at ka kb
      obtain ⟨τ, j3, u3, u4, u11, q1, q2, q3, q4⟩ := ih (k + 1) f ρ b i3 w3 w4 w11 hw (by omega) hi (by omega) (by omega) T
      refine ⟨τ, j3, u3, u4, u11, ?_, ?_, q3.mono (by omega), q4⟩
      · rw [L_X9_ringAt_50]
        unfold F_X2_size
        rw [bnd_some, brn_neg _ _ (by rw [t6, I_le (by omega) (by omega) (by omega) (by omega)]; omega), kk]
        rw [show F_X9_isHeardAt (I i) (I k) (I x) (I y) (v.2 0) (v.1 7) (v.2 5) (v.2 6) (v.2 7) = some (I 0) by rw [t7]; exact ka, bnd_some, brn_pos _ _ (by decide)]
        exact q1
      · rw [L_X12_doRing_119, grd_pos _ (by decide), c2, J_at, brn_neg _ _ (by rw [I_le (by omega) (by omega) (by omega) (by omega)]; omega), kb, bnd_some, brn_pos _ _ (by decide), kk]
        exact q2
    · rw [hc, bI_t] at ka kb
      have hpos : 0 < shA ρ i k x + y := by
        unfold ecB at hc
        rw [Bool.and_eq_true] at hc
        exact of_decide_eq_true hc.2
      have kh := x_hears hw T hki sb.1 (by omega) h5 h6 hpos
      rw [← t0] at kh
      have kg := m_hears hw hki sb.1 (by omega) h5 h6 hpos
      have kr := kd_in (σ := ρ) (i := k) (h := ρ 0) sb.1 h5 hpos
      obtain ⟨w1, w2⟩ := ring_step (c := 6) hw T hki kr (Or.inr rfl) rfl (by omega)
      have u2 : U (hearS ρ k (kd ρ k (ρ 0) (shA ρ i k x) y)) 6 (ρ 6 + 1) 2 = ρ 2 := by
        unfold hearS
        rw [U_ne _ _ (by omega), U_ne _ _ (by omega), U_ne _ _ (by omega), U_ne _ _ (by omega)]
      have u6 : hearS ρ k (kd ρ k (ρ 0) (shA ρ i k x) y) 6 = ρ 6 := by
        unfold hearS
        rw [U_ne _ _ (by omega), U_ne _ _ (by omega), U_ne _ _ (by omega)]
      rw [if_neg (show ¬ (6 : Nat) = 5 by omega), if_pos rfl] at w2
      obtain ⟨τ, j3, u3, u4, u11, q1, q2, q3, q4⟩ := ih (k + 1) f _ (b + 1) (I (ρ 6 + 1)) _ _ _ w1 (by omega) (by rw [u2]; exact hi) (by rw [u2]; omega) (by omega) w2
      refine ⟨τ, j3, u3, u4, u11, ?_, ?_, q3.mono (by omega), q4⟩
      · rw [L_X9_ringAt_50]
        unfold F_X2_size
        rw [bnd_some, brn_neg _ _ (by rw [t6, I_le (by omega) (by omega) (by omega) (by omega)]; omega), kk]
        rw [show F_X9_isHeardAt (I i) (I k) (I x) (I y) (v.2 0) (v.1 7) (v.2 5) (v.2 6) (v.2 7) = some (I 1) by rw [t7]; exact ka, bnd_some, brn_neg _ _ (by decide)]
        rw [show F_X9_shortsLeft (I i) (I k) (I x) (v.2 0) = _ from ks, bnd_some, show F_X9_hearAt (I k) (I (shA ρ i k x)) (I y) (v.1 0) (v.2 1) (v.2 2) w3 w4 w11 = _ from kh, bnd_some]
        rw [show i3 + 1 = I (ρ 6 + 1) by rw [t4, lit_1, I_add]]
        exact q1
      · rw [L_X12_doRing_119, grd_pos _ (by decide), c2, J_at, brn_neg _ _ (by rw [I_le (by omega) (by omega) (by omega) (by omega)]; omega), kb, bnd_some, brn_neg _ _ (by decide), kt, bnd_some, kg, bnd_some, grd_pos _ (by decide), grd_pos _ (by decide), c6, kk]
        dsimp only
        rw [J_at, u6, lit_1, I_add, J_upd]
        exact q2
/-- a ring at a house: what both do -/
theorem d_ring (h : WF b σ) (T : TR σ v) {i : Nat} (hi : (i : Int) < σ 2) {x y : Int} (h3 : 0 ≤ x) (h4 : x ≤ 9) (h5 : 0 ≤ y) (h6 : y ≤ 9) (h7 : 0 < x + y) (hb0 : 0 ≤ b) (hb : b < 900000) :
    ∃ (τ : Nat → Int) (z : Int) (j2 j3 j4 j5 : Int32) (u3 u4 u9 u11 : Nat → Int32), F_X9_ringAt (I i) (I x) (I y) (v.1 0) (v.1 6) (v.2 0) (v.2 1) (v.2 2) (v.1 7) (v.2 5) (v.2 6) (v.2 7) (v.1 8) (v.1 2) (v.1 3) (v.1 4) (v.1 5) (v.2 3) (v.2 4) (v.2 9) (v.2 11) = some (I z, j2, j3, j4, j5, u3, u4, u9, u11) ∧ F_X12_doRing (I i) (I x) (I y) 0 (J σ) = some (I z, 0, J τ) ∧ WF (b + 12) τ ∧ TR τ (tvMk (v.1 0) (v.1 1) j2 j3 j4 j5 (v.1 6) (v.1 7) (v.1 8) (v.2 0) (v.2 1) (v.2 2) u3 u4 (v.2 5) (v.2 6) (v.2 7) (v.2 8) u9 (v.2 10) u11) := by
  have hn := h.n
  have hq := h.q
  have c5 : (5 : Int32).toNatClampNeg = 5 := by decide
  have c7 : (7 : Int32).toNatClampNeg = 7 := by decide
  have c8 : (8 : Int32).toNatClampNeg = 8 := by decide
  have kh := x_hears h T hi h3 h4 h5 h6 h7
  have kg := m_hears h hi h3 h4 h5 h6 h7
  have kr := kd_in (σ := σ) (i := i) (h := σ 0) h3 h5 h7
  obtain ⟨k, hk⟩ : ∃ k, k = kd σ i (σ 0) x y := ⟨_, rfl⟩
  rw [← hk] at kh kg kr
  obtain ⟨w1, w2⟩ := ring_step (c := 5) h T hi kr (Or.inl rfl) rfl (by omega)
  rw [if_pos rfl, if_neg (show ¬ (5 : Nat) = 6 by omega)] at w2
  have u5 : hearS σ i k 5 = σ 5 := by
    unfold hearS
    rw [U_ne _ _ (by omega), U_ne _ _ (by omega), U_ne _ _ (by omega)]
  obtain ⟨ρ, hρ⟩ : ∃ ρ, ρ = U (hearS σ i k) 5 (σ 5 + 1) := ⟨_, rfl⟩
  have ρ2 : ρ 2 = σ 2 := by
    rw [hρ]
    unfold hearS
    rw [U_ne _ _ (by omega), U_ne _ _ (by omega), U_ne _ _ (by omega), U_ne _ _ (by omega)]
  have ρ4 : ρ 4 = σ 4 := by
    rw [hρ]
    unfold hearS
    rw [U_ne _ _ (by omega), U_ne _ _ (by omega), U_ne _ _ (by omega), U_ne _ _ (by omega)]
  have ρ7 : ρ 7 = σ 7 := by
    rw [hρ]
    unfold hearS
    rw [U_ne _ _ (by omega), U_ne _ _ (by omega), U_ne _ _ (by omega), U_ne _ _ (by omega)]
  have t3 : v.1 3 + 1 = I (σ 5 + 1) := by rw [T.1.2.2.2.1, lit_1, I_add]
  have t5 : v.1 5 + 1 = I (σ 7 + 1) := by rw [T.1.2.2.2.2.2.1, lit_1, I_add]
  have t8 : v.1 8 = I (σ 4) := T.1.2.2.2.2.2.2.2.2
  have kh2 := kh
  rw [← T.1.1] at kh2
  rw [← hρ] at w1 w2
  unfold F_X9_ringAt J_X9_ringAt_47 F_X12_doRing J_X12_doRing_116 F_X5_forgetTold
  rw [kh2, bnd_some, m_isHouse_p h (by omega) (by omega), bnd_some, brn_neg _ _ (show ¬ I 1 = 0 by decide), m_tone_p (by omega) (by omega) ⟨⟨h3, h4⟩, ⟨h5, h6⟩, h7⟩, bnd_some, brn_neg _ _ (show ¬ I 1 = 0 by decide), kg, bnd_some, grd_pos _ (by decide), grd_pos _ (by decide), c5, t3]
  dsimp only
  rw [J_at, u5]
  by_cases e : k = 3
  · rw [brn_pos _ _ (show I k = 3 by rw [e]; rfl), brn_pos _ _ (show I k = 3 by rw [e]; rfl)]
    obtain ⟨r9, s1, s2⟩ := x_reset hq.2 (σ 4).toNat 0 100 (v.2 9) (by omega) (by omega)
    obtain ⟨w5, w6⟩ := prank_step (p := i) (r9 := r9) w1 w2 (by omega) (by omega) (fun i => by rw [s2 i, ρ4]; rfl)
    obtain ⟨τ, j3, u3, u4, u11, q1, q2, q3, q4⟩ := ring_loop (i := i) h3 h4 h5 h6 (tvMk (v.1 0) (v.1 1) (I i) (I (σ 5 + 1)) (v.1 4) (I (ρ 7 + 1)) (v.1 6) (v.1 7) (v.1 8) (v.2 0) (v.2 1) (v.2 2) (v.2 3) (v.2 4) (v.2 5) (v.2 6) (v.2 7) (v.2 8) r9 (v.2 10) (v.2 11)) (I k) (σ 2).toNat 0 100 _ _ _ _ _ _ w5 (by omega) (by rw [rsS_out _ _ _ _ (fun j a b => by omega), U_ne _ _ (by omega), U_ne _ _ (by omega), ρ2]; exact hi) (by rw [rsS_out _ _ _ _ (fun j a b => by omega), U_ne _ _ (by omega), U_ne _ _ (by omega), ρ2]; omega) (by omega) w6
    refine ⟨τ, k, _, _, _, _, u3, u4, r9, u11, ?_, ?_, q3.mono (by omega), q4⟩
    · rw [t8, show L_X5_forgetTold_2 (I (σ 4)) 100 0 (v.2 9) = _ from s1, bnd_some, t5, ← t8, ← ρ7]
      exact q1
    · have e1 : I (i : Int) + 1 = I (i + 1) := by rw [lit_1, I_add]
      have e7 : U (hearS σ i k) 5 (σ 5 + 1) 7 = σ 7 := by rw [← hρ]; exact ρ7
      rw [grd_pos _ (by decide), grd_pos _ (by decide), grd_pos _ (by decide), c7, c8, e1, lit_1, I_add, J_upd, J_at, e7, I_add, J_upd, J_upd, ← hρ]
      have mr := m_reset (I i) (I x) (I y) (I k) 0 (σ 4).toNat 0 100 (U (U ρ 7 (ρ 7 + 1)) 8 (i + 1)) (by rw [U_ne _ _ (by omega), U_ne _ _ (by omega), ρ4]; omega) (by rw [U_ne _ _ (by omega), U_ne _ _ (by omega), ρ4]; omega) (by omega)
      rw [← ρ7]
      refine Eq.trans mr ?_
      unfold J_X12_doRing_116
      rw [← ρ4]
      exact q2
  · have ne : ¬ I k = 3 := by rw [lit_3, I_eq (by omega) (by omega) (by omega) (by omega)]; exact e
    rw [brn_neg _ _ ne, brn_neg _ _ ne]
    obtain ⟨τ, j3, u3, u4, u11, q1, q2, q3, q4⟩ := ring_loop (i := i) h3 h4 h5 h6 (tvMk (v.1 0) (v.1 1) (v.1 2) (I (σ 5 + 1)) (v.1 4) (v.1 5) (v.1 6) (v.1 7) (v.1 8) (v.2 0) (v.2 1) (v.2 2) (v.2 3) (v.2 4) (v.2 5) (v.2 6) (v.2 7) (v.2 8) (v.2 9) (v.2 10) (v.2 11)) (I k) (σ 2).toNat 0 100 _ _ _ _ _ _ w1 (by omega) (by rw [ρ2]; exact hi) (by rw [ρ2]; omega) (by omega) w2
    refine ⟨τ, k, _, _, _, _, u3, u4, _, u11, q1, ?_, q3.mono (by omega), q4⟩
    rw [lit_1, I_add, J_upd, ← hρ]
    exact q2
end RG2
section OP5
variable {b : Int} {x : XVal} {y : MVal}
theorem op_ring (hR : Rel b x y) (hb : 0 ≤ b) (hb2 : b < 900000) (p1 p2 p3 : Int32) : OPK [(0, 0), (1, 1), (2, 2)] b (G_ring p1 p2 p3 x) (H_ring p1 p2 p3 y) := by
  obtain ⟨σ, π, n, e, ⟨hw, hs, T⟩, hK, ⟨h28, h29, hm, hp, hP⟩, hQ, hO, hS⟩ := hR
  obtain ⟨a, ha, rfl⟩ := I_ex p1
  obtain ⟨s, hs1, rfl⟩ := I_ex p2
  obtain ⟨l, hl, rfl⟩ := I_ex p3
  obtain ⟨β, -, hβ⟩ := J_ex (y.2 1)
  have hn := hw.n
  have h7 : x.1 7 = I (σ 2) := T.1.2.2.2.2.2.2.1
  unfold G_ring H_ring F_X11_ring F_X12_ring
  rw [hs, hβ, hm, hp, m_keep, bnd_some, h28, h29]
  by_cases e1 : 0 ≤ a ∧ a < σ 2
  · by_cases e2 : (0 ≤ s ∧ s ≤ 9) ∧ (0 ≤ l ∧ l ≤ 9) ∧ 0 < s + l
    · obtain ⟨i, rfl⟩ := Int.eq_ofNat_of_zero_le e1.1
      obtain ⟨τ, z, j2, j3, j4, j5, u3, u4, u9, u11, r1, r2, w1, w2⟩ := d_ring (v := xT x) hw T e1.2 e2.1.1 e2.1.2 e2.2.1.1 e2.2.1.2 e2.2.2 hb hb2
      obtain ⟨pool', q1, q2⟩ := x_push (show TR σ (tvMk (x.1 1) (x.1 2) (x.1 3) (x.1 4) (x.1 5) (x.1 6) (x.1 7) (x.1 8) (x.1 9) (x.2.1 0) (x.2.1 1) (x.2.1 2) (x.2.1 3) (x.2.1 4) (x.2.1 5) (x.2.1 6) (x.2.1 7) (x.2.1 8) (x.2.1 9) (x.2.1 10) (x.2.1 11)) from T) hw hP
      rw [show F_X9_judgeRing (I i) (I s) (I l) (x.1 7) = some (I 0) by rw [h7]; exact x_judge_0 ha (by omega) hs1 hl e1 e2, bnd_some, x_dFi0, bnd_some, brn_pos _ _ rfl, q1, bnd_some, show F_X9_ringAt (I i) (I s) (I l) (x.1 1) (x.1 7) (x.2.1 0) (x.2.1 1) (x.2.1 2) (x.1 8) (x.2.1 5) (x.2.1 6) (x.2.1 7) (x.1 9) (x.1 3) (x.1 4) (x.1 5) (x.1 6) (x.2.1 3) (x.2.1 4) (x.2.1 9) (x.2.1 11) = _ from r1, bnd_some, r2]
      simp only [bnd_some]
      rw [m_ends hP.1, bnd_some]
      exact ⟨0, _, _, _, _, 0, by decide, rfl, rfl, rfl, fun _ => rfl, ⟨_, _, _, _, ⟨w1.mono (by omega), rfl, w2⟩, hK.mono (by omega), ⟨rfl, rfl, rfl, rfl, q2.mono (by omega)⟩, hQ, hO, hS⟩⟩
    · have q3 : F_X12_doRing (I a) (I s) (I l) 0 (J σ) = some (0, I 2, J σ) := by
        unfold F_X12_doRing J_X12_doRing_16 J_X12_doRing_30
        rw [m_isHouse_p hw ha e1, bnd_some, brn_neg _ _ (by decide), m_tone_n hs1 hl e2, bnd_some, brn_pos _ _ (by decide), bnd_some, brn_neg _ _ (by decide)]
        rfl
      rw [show F_X9_judgeRing (I a) (I s) (I l) (x.1 7) = some (I 2) by rw [h7]; exact x_judge_2 ha (by omega) hs1 hl e1 e2, bnd_some, x_dFi2, bnd_some, brn_neg _ _ (by decide), q3, bnd_some, bnd_some, m_endsF (t := 2) (by omega) (by omega), bnd_some, CP_self]
      exact ⟨2, _, _, _, _, 2, by decide, rfl, rfl, rfl, fun q => absurd q (by decide), ⟨σ, π, n, e, ⟨hw.mono (by omega), rfl, T⟩, hK.mono (by omega), ⟨rfl, rfl, rfl, rfl, hP.mono (by omega)⟩, hQ, hO, hS⟩⟩
  · have q3 : F_X12_doRing (I a) (I s) (I l) 0 (J σ) = some (0, I 1, J σ) := by
      unfold F_X12_doRing J_X12_doRing_16 J_X12_doRing_30
      rw [m_isHouse_n hw ha e1, bnd_some, brn_pos _ _ (by decide), bnd_some, brn_pos _ _ (by decide)]
      rfl
    rw [show F_X9_judgeRing (I a) (I s) (I l) (x.1 7) = some (I 1) by rw [h7]; exact x_judge_1 (x := 0) (y := 0) ha (by omega) e1 _ _, bnd_some, x_dFi1, bnd_some, brn_neg _ _ (by decide), q3, bnd_some, bnd_some, m_endsF (t := 1) (by omega) (by omega), bnd_some, CP_self]
    exact ⟨1, _, _, _, _, 1, by decide, rfl, rfl, rfl, fun q => absurd q (by decide), ⟨σ, π, n, e, ⟨hw.mono (by omega), rfl, T⟩, hK.mono (by omega), ⟨rfl, rfl, rfl, rfl, hP.mono (by omega)⟩, hQ, hO, hS⟩⟩
end OP5
