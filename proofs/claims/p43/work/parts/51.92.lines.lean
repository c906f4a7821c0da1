/-! ===== lines, written by both ===== -/
def LN (n : Nat) (xs ys : Nat → Int32) : Prop := n ≤ 20 ∧ ∀ i, i < n → xs i = ys i ∧ vp_nar .char (xs i) = xs i
section LIN
variable {b : Int} {σ : Nat → Int} {v : TVal} {n : Nat} {xs ys : Nat → Int32}
theorem sgn {z : Int32} (h : LN n xs ys) (hn : n < 20) (hz : vp_nar .char z = z) : F_X8_putSign z (I n) xs = some (I ((n + 1 : Nat) : Int), upd xs n z) ∧ F_X12_says z (I n) ys = some (I ((n + 1 : Nat) : Int), upd ys n z) ∧ LN (n + 1) (upd xs n z) (upd ys n z) := by
  have ecl : (I (n : Int)).toNatClampNeg = n := by rw [I_cl (by omega) (by omega)]; omega
  have kk : I (n : Int) + 1 = I ((n + 1 : Nat) : Int) := by rw [lit_1, I_add]; congr 1
  refine ⟨?_, ?_, by omega, fun i hi => ?_⟩
  · unfold F_X8_putSign
    rw [brn_neg _ _ (by rw [lit_20, I_le (by omega) (by omega) (by omega) (by omega)]; omega), grd_pos _ (by rw [I_inb (by omega) (by omega)]; omega), ecl, kk, hz]
  · unfold F_X12_says
    rw [grd_pos _ (by rw [I_inb (by omega) (by omega)]; omega), ecl, kk, hz]
  · unfold upd
    by_cases e : i = n
    · rw [if_pos e, if_pos e]
      exact ⟨rfl, hz⟩
    · rw [if_neg e, if_neg e]
      exact h.2 i (by omega)
theorem dg {d : Int} (h1 : 0 ≤ d) (h2 : d ≤ 9) : F_X8_digit (I d) = some (I (48 + d)) ∧ (((48 : Int32) + I d).toUInt32 % 65536).toInt32 = I (48 + d) ∧ vp_nar .char (I (48 + d)) = I (48 + d) := by
  rcases (show d = 0 ∨ d = 1 ∨ d = 2 ∨ d = 3 ∨ d = 4 ∨ d = 5 ∨ d = 6 ∨ d = 7 ∨ d = 8 ∨ d = 9 by omega) with rfl | rfl | rfl | rfl | rfl | rfl | rfl | rfl | rfl | rfl
  all_goals exact ⟨by decide, by decide, by decide⟩
theorem num {p : Int} (h : LN n xs ys) (h1 : 0 ≤ p) (h2 : p ≤ 99) (hn : n + 2 ≤ 20 ∨ p ≤ 9 ∧ n + 1 ≤ 20) : ∃ (m : Nat) (xs2 ys2 : Nat → Int32), F_X8_putNumber (I p) (I n) xs = some (I m, xs2) ∧ F_X12_saysNumber (I p) (I n) ys = some (I m, ys2) ∧ LN m xs2 ys2 ∧ m ≤ n + 2 ∧ (p ≤ 9 → m ≤ n + 1) := by
  have e : I p - I p / 10 * 10 = I (p % 10) := by rw [lit_10, I_rem (by omega) (by omega) (by omega) (by omega)]
  obtain ⟨d1, d2, d3⟩ := dg (d := p % 10) (by omega) (by omega)
  have last : ∀ (m : Nat) (as bs : Nat → Int32), LN m as bs → m < 20 → J_X8_putNumber_17 (I p) (I m) as = some (I ((m + 1 : Nat) : Int), upd as m (I (48 + p % 10))) ∧ J_X12_saysNumber_14 (I p) (I m) bs = some (I ((m + 1 : Nat) : Int), upd bs m (I (48 + p % 10))) ∧ LN (m + 1) (upd as m (I (48 + p % 10))) (upd bs m (I (48 + p % 10))) := by
    intro m as bs hL hm
    obtain ⟨s1, s2, s3⟩ := sgn hL hm d3
    refine ⟨?_, ?_, s3⟩
    · unfold J_X8_putNumber_17
      rw [e, d1, bnd_some, s1, bnd_some]
    · unfold J_X12_saysNumber_14
      rw [e, d2, s2, bnd_some]
  unfold F_X8_putNumber F_X12_saysNumber
  by_cases q : p ≤ 9
  · obtain ⟨l1, l2, l3⟩ := last n xs ys h (by omega)
    refine ⟨n + 1, _, _, ?_, ?_, l3, by omega, fun _ => by omega⟩
    · rw [brn_pos _ _ (by rw [lit_10, I_lt (by omega) (by omega) (by omega) (by omega)]; omega)]
      exact l1
    · rw [brn_pos _ _ (by rw [lit_9, I_le (by omega) (by omega) (by omega) (by omega)]; omega)]
      exact l2
  · have e2 : I p / 10 = I (p / 10) := by rw [lit_10, I_div (by omega) (by omega) (by omega) (by omega)]
    have e3 : I (p / 10) - I (p / 10) / 10 * 10 = I (p / 10) := by
      rw [lit_10, I_rem (by omega) (by omega) (by omega) (by omega)]
      congr 1
      omega
    obtain ⟨g1, g2, g3⟩ := dg (d := p / 10) (by omega) (by omega)
    obtain ⟨s1, s2, s3⟩ := sgn h (by omega) g3
    obtain ⟨l1, l2, l3⟩ := last (n + 1) _ _ s3 (by omega)
    refine ⟨n + 1 + 1, _, _, ?_, ?_, l3, by omega, fun _ => by omega⟩
    · rw [brn_neg _ _ (by rw [lit_10, I_lt (by omega) (by omega) (by omega) (by omega)]; omega), e2, g1, bnd_some, s1, bnd_some]
      exact l1
    · rw [brn_neg _ _ (by rw [lit_9, I_le (by omega) (by omega) (by omega) (by omega)]; omega), e2]
      unfold F_X12_saysNumber0 J_X12_saysNumber0_14
      rw [brn_pos _ _ (by rw [lit_9, I_le (by omega) (by omega) (by omega) (by omega)]; omega), e3, g2, s2, bnd_some, bnd_some]
      exact l2
theorem sign_eq (h : WF b σ) (T : TR σ v) {c : Int} (h1 : 0 ≤ c) (h2 : c ≤ 63) : ∃ z, F_X8_signOf (I c) (I (σ 2)) (v.2 0) (I (σ 3)) (v.2 5) (v.2 6) (v.2 7) (I (σ 4)) (v.2 8) (v.2 10) = some z ∧ F_X12_signOf (I c) (J σ) = some z ∧ vp_nar .char z = z := by
  have a1 := hOn_in h c
  have a2 := pOn_in h c
  have a3 := lOn_in h c
  have b1 := h.n
  have b2 := h.q
  have b3 := h.m
  unfold F_X8_signOf F_X12_signOf
  rw [x_hOn h T.a0 (by omega), x_isBlocked h T.a10 h1 h2, x_pOn h T.a8 (by omega), x_lOn h T.a5 T.a6 T.a7 h1 h2, m_houseOn h (by omega), m_isBlocked h h1 h2, m_postOn h (by omega), m_hallOn h h1 h2]
  simp only [bnd_some]
  by_cases e1 : hOn σ c = -1
  · cases e2 : blkB σ c with
    | true =>
      refine ⟨35, ?_, ?_, by decide⟩
      · rw [brn_pos _ _ (by rw [e1, m1]), brn_neg _ _ (show ¬ bI true = 0 by decide), grd_pos _ (by decide)]
      · rw [brn_pos _ _ (by rw [e1]; decide), brn_neg _ _ (show ¬ bI true = 0 by decide), grd_pos _ (by decide)]
    | false =>
      by_cases e3 : pOn σ c = -1
      · by_cases e4 : lOn σ c = -1
        · refine ⟨46, ?_, ?_, by decide⟩
          · rw [brn_pos _ _ (by rw [e1, m1]), brn_pos _ _ (show bI false = 0 from rfl), brn_pos _ _ (by rw [e3, m1]), brn_pos _ _ (by rw [e4, m1]), grd_pos _ (by decide)]
          · rw [brn_pos _ _ (by rw [e1]; decide), brn_pos _ _ (show bI false = 0 from rfl), brn_pos _ _ (by rw [e3]; decide), brn_pos _ _ (by rw [e4]; decide), grd_pos _ (by decide)]
        · refine ⟨95, ?_, ?_, by decide⟩
          · rw [brn_pos _ _ (by rw [e1, m1]), brn_pos _ _ (show bI false = 0 from rfl), brn_pos _ _ (by rw [e3, m1]), brn_neg _ _ (by rw [m1, I_eq (by omega) (by omega) (by omega) (by omega)]; exact e4), grd_pos _ (by decide)]
          · rw [brn_pos _ _ (by rw [e1]; decide), brn_pos _ _ (show bI false = 0 from rfl), brn_pos _ _ (by rw [e3]; decide), brn_neg _ _ (by rw [lit_0, I_lt (by omega) (by omega) (by omega) (by omega)]; omega), grd_pos _ (by decide)]
      · refine ⟨111, ?_, ?_, by decide⟩
        · rw [brn_pos _ _ (by rw [e1, m1]), brn_pos _ _ (show bI false = 0 from rfl), brn_neg _ _ (by rw [m1, I_eq (by omega) (by omega) (by omega) (by omega)]; exact e3), grd_pos _ (by decide)]
        · rw [brn_pos _ _ (by rw [e1]; decide), brn_pos _ _ (show bI false = 0 from rfl), brn_neg _ _ (by rw [lit_0, I_lt (by omega) (by omega) (by omega) (by omega)]; omega), grd_pos _ (by decide)]
  · obtain ⟨d1, d2, d3⟩ := dg (d := hOn σ c) (by omega) (by omega)
    refine ⟨I (48 + hOn σ c), ?_, ?_, d3⟩
    · rw [brn_neg _ _ (by rw [m1, I_eq (by omega) (by omega) (by omega) (by omega)]; exact e1), d1, bnd_some, grd_pos _ d3]
    · rw [brn_neg _ _ (by rw [lit_0, I_lt (by omega) (by omega) (by omega) (by omega)]; omega), d2, grd_pos _ d3]
theorem row_eq (h : WF b σ) (T : TR σ v) {r : Int} (hr : 0 ≤ r ∧ r ≤ 7) (th : Int32) : ∀ (m k f : Nat) (xs ys : Nat → Int32), k + m = 8 → m < f → LN k xs ys → ∃ xs2 ys2, L_X8_writeRow_7 (I r) (I (σ 2)) (v.2 0) (I (σ 3)) (v.2 5) (v.2 6) (v.2 7) (I (σ 4)) (v.2 8) (v.2 10) f (I k) (I k) xs = some (I ((8 : Nat) : Int), I ((8 : Nat) : Int), xs2) ∧ L_X12_line_35 (I r) (J σ) f (I k) th (I k) ys = some (I ((8 : Nat) : Int), th, I ((8 : Nat) : Int), ys2) ∧ LN 8 xs2 ys2 := by
  intro m
  induction m with
  | zero =>
    intro k f xs ys hk hf hL
    obtain ⟨f, rfl⟩ : ∃ g, f = g + 1 := ⟨f - 1, by omega⟩
    obtain rfl : k = 8 := by omega
    refine ⟨xs, ys, ?_, ?_, hL⟩
    · rw [L_X8_writeRow_7, brn_pos _ _ (by decide)]
    · rw [L_X12_line_35, brn_pos _ _ (by decide)]
  | succ m ih =>
    intro k f xs ys hk hf hL
    obtain ⟨f, rfl⟩ : ∃ g, f = g + 1 := ⟨f - 1, by omega⟩
    have kk : I (k : Int) + 1 = I ((k + 1 : Nat) : Int) := by rw [lit_1, I_add]; congr 1
    obtain ⟨z, z1, z2, z3⟩ := sign_eq h T (c := 8 * r + k) (by omega) (by omega)
    obtain ⟨s1, s2, s3⟩ := sgn hL (by omega) z3
    obtain ⟨xs2, ys2, u1, u2, u3⟩ := ih (k + 1) f _ _ (by omega) (by omega) s3
    refine ⟨xs2, ys2, ?_, ?_, u3⟩
    · rw [L_X8_writeRow_7, brn_neg _ _ (by rw [lit_8, I_le (by omega) (by omega) (by omega) (by omega)]; omega), x_cellAt (by omega) (by omega), if_pos (by omega), bnd_some, z1, bnd_some, s1, bnd_some, kk]
      exact u1
    · rw [L_X12_line_35, brn_neg _ _ (by rw [lit_8, I_le (by omega) (by omega) (by omega) (by omega)]; omega), show (8 : Int32) * I r + I k = I (8 * r + k) by rw [lit_8, I_mul, I_add], z2, bnd_some, s2, bnd_some, kk]
      exact u2
/-- the marks: one for each prank, nine at most -/
theorem marks (h : WF b σ) (T : TR σ v) {i : Nat} (hi : (i : Int) < σ 2) (p3 th : Int32) (c0 c1 c2 : Nat → Int32) : ∀ (r k f n : Nat) (xs ys : Nat → Int32), k + r ≤ 9 → ((k + r : Nat) : Int) ≤ σ (81 + 5 * i) → (k + r = 9 ∨ ((k + r : Nat) : Int) = σ (81 + 5 * i)) → r < f → n + r ≤ 20 → LN n xs ys →
    ∃ xs2 ys2, L_X8_writeHouse_81 (I i) p3 c0 c1 c2 (v.2 4) f (I k) (I n) xs = some (I ((n + r : Nat) : Int), I ((n + r : Nat) : Int), xs2) ∧ L_X12_houseLine_135 (I i) (J σ) f (I r) th (I n) ys = some (I ((n + r : Nat) : Int), th, I ((n + r : Nat) : Int), ys2) ∧ LN (n + r) xs2 ys2 := by
  have hr := h.r (81 + 5 * i)
  have pa : F_X2_pranksAt (I i) (v.2 4) = some (I (σ (81 + 5 * i))) := by
    unfold F_X2_pranksAt
    rw [x_at10 T.a4 hi h.n.2, bnd_some]
  intro r
  induction r with
  | zero =>
    intro k f n xs ys h1 h2 h3 hf hn hL
    obtain ⟨f, rfl⟩ : ∃ g, f = g + 1 := ⟨f - 1, by omega⟩
    refine ⟨xs, ys, ?_, ?_, hL⟩
    · rw [L_X8_writeHouse_81, pa, bnd_some]
      unfold J_X8_writeHouse_110
      by_cases e : k = 9
      · rw [brn_pos _ _ (by rw [e]; decide)]
        rfl
      · rw [brn_neg _ _ (by rw [lit_9, I_le (by omega) (by omega) (by omega) (by omega)]; omega), brn_pos _ _ (by rw [I_le (by omega) (by omega) (by omega) (by omega)]; omega)]
        rfl
    · rw [L_X12_houseLine_135, brn_pos _ _ (by decide)]
      rfl
  | succ r ih =>
    intro k f n xs ys h1 h2 h3 hf hn hL
    obtain ⟨f, rfl⟩ : ∃ g, f = g + 1 := ⟨f - 1, by omega⟩
    have kk : I (k : Int) + 1 = I ((k + 1 : Nat) : Int) := by rw [lit_1, I_add]; congr 1
    have rr : I ((r + 1 : Nat) : Int) + (-1) = I (r : Int) := by
      rw [m1, I_add]
      congr 1
      omega
    obtain ⟨s1, s2, s3⟩ := sgn hL (by omega) (show vp_nar .char 33 = 33 by decide)
    obtain ⟨xs2, ys2, u1, u2, u3⟩ := ih (k + 1) f (n + 1) _ _ (by omega) (by omega) (by omega) (by omega) (by omega) s3
    have nn : n + 1 + r = n + (r + 1) := by omega
    rw [nn] at u1 u2 u3
    refine ⟨xs2, ys2, ?_, ?_, u3⟩
    · rw [L_X8_writeHouse_81, pa, bnd_some, brn_neg _ _ (by rw [lit_9, I_le (by omega) (by omega) (by omega) (by omega)]; omega), brn_neg _ _ (by rw [I_le (by omega) (by omega) (by omega) (by omega)]; omega), s1, bnd_some, kk]
      exact u1
    · rw [L_X12_houseLine_135, brn_neg _ _ (by rw [lit_0, I_le (by omega) (by omega) (by omega) (by omega)]; omega), s2, bnd_some, rr]
      exact u2
end LIN
