/-! ===== a whole text, read by both ===== -/
section RDA
variable {n : Nat} {X Y : Nat → Int32}
theorem arK_in (k : Nat) : arK k ≤ 3 := by
  unfold arK
  split
  · omega
  · split <;> omega
theorem OKo_keep {K N O K2 N2 O2 : Nat → Int32} {j : Nat} (h : OKo K N O j) (h1 : K2 j = K j) (h2 : ∀ m, m < 3 → N2 (3 * j + m) = N (3 * j + m)) (h3 : ∀ m, m < 4 → O2 (4 * j + m) = O (4 * j + m)) : OKo K2 N2 O2 j := by
  obtain ⟨k, k1, k2, k3, k4⟩ := h
  refine ⟨k, k1, h1.trans k2, ?_, fun m hm => ?_⟩
  · have := h3 0 (by omega)
    rw [Nat.add_zero] at this
    exact this.trans k3
  · have ha := arK_in k
    rw [h2 m (by omega), k4 m hm, show 4 * j + 1 + m = 4 * j + (1 + m) by omega]
    exact (h3 (1 + m) (by omega)).symm
theorem x_badEnd (f : Nat) (x2 ct er : Int32) (q : Int32) (K N : Nat → Int32) : L_X3_read_17 (I n) X (f + 1) 0 x2 ct q er K N = some (0, 0, ct, q, q, K, N) := by
  have j : J_X3_read_66 (I n) X 0 ct q er K N = some (0, 0, ct, q, q, K, N) := by
    unfold J_X3_read_66 J_X3_read_79
    rw [brn_pos _ _ rfl, grd_pos _ (Or.inl rfl)]
  rw [L_X3_read_17, j]
  by_cases e : (60 : Int32) ≤ x2
  · rw [brn_pos _ _ e]
  · rw [brn_neg _ _ e, brn_pos _ _ rfl]
theorem m_badEnd (f : Nat) (pm th rs dt rf L at_ er om : Int32) (s bf past O : Nat → Int32) : L_X12_run_19 Y (f + 1) pm th rs dt rf L at_ 1 er om s bf past O = J_X12_run_90 Y at_ pm th rs dt rf L at_ 1 er om s bf past O := by
  rw [L_X12_run_19, ih_w, bnd_some, brn_pos _ _ rfl, brn_neg _ _ (show ¬ (1 : Int32) = 0 by decide)]
  unfold J_X12_run_66 J_X12_run_71
  rw [grd_pos _ (Or.inr rfl), brn_neg _ _ (show ¬ (1 : Int32) = 0 by decide)]
/-- where both stop: the place of the error, if there is one -/
def eP (fl : Bool) (q : Nat) : Int32 := if fl = true then -1 else I q
theorem rd (hn : n ≤ 60) (hXY : ∀ i, i < n → X i = Y i) (er er2 pm th rs dt rf : Int32) (s bf past : Nat → Int32) : ∀ (r c q f f2 : Nat) (K N O : Nat → Int32), n < q + r → r < f → r < f2 → q ≤ n → 3 * (c + 1) ≤ q + 1 → (∀ j, j < c + 1 → OKo K N O j) →
    ∃ (q2 : Nat) (fl : Bool) (ct om : Int32) (K2 N2 O2 : Nat → Int32), q2 ≤ n ∧ L_X3_read_17 (I n) X f 1 (I c) (I ((c + 1 : Nat) : Int)) (I q) er K N = some (0, bI fl, ct, I q2, eP fl q2, K2, N2) ∧ L_X12_run_19 Y f2 pm th rs dt rf (I n) (I q) 0 er2 (I ((c + 1 : Nat) : Int)) s bf past O = J_X12_run_90 Y (eP fl q2) pm th rs dt rf (I n) (I q2) (bI (!fl)) er2 om s bf past O2 ∧ (fl = true → ∃ c2 : Nat, c2 ≤ 20 ∧ ct = I c2 ∧ om = I c2 ∧ ∀ j, j < c2 → OKo K2 N2 O2 j) := by
  intro r
  induction r with
  | zero => intro c q f f2 K N O h1 h2 h3 h4; omega
  | succ r ih =>
    intro c q f f2 K N O h1 h2 h3 h4 h5 h6
    obtain ⟨f, rfl⟩ : ∃ g, f = g + 1 := ⟨f - 1, by omega⟩
    obtain ⟨f2, rfl⟩ : ∃ g, f2 = g + 1 := ⟨f2 - 1, by omega⟩
    have kk : I (q : Int) + 1 = I ((q + 1 : Nat) : Int) := by rw [lit_1, I_add]; congr 1
    have kc : I (c : Int) + 1 = I ((c + 1 : Nat) : Int) := by rw [lit_1, I_add]; congr 1
    by_cases hq : q < n
    · have sj := sg_j (X := X) (Y := Y) (p := q) (z := 59) (by omega) hn (by omega) hXY
      rw [← lit_59] at sj
      rcases sj with ⟨u, l1, x1, -, y1⟩ | ⟨x1, -, y1⟩
      · have oj := ro_all (X := X) (Y := Y) (n := n) (p := q + 1) (c := c + 1) (K := K) (N := N) (O := O) hn (by omega) (by omega) hXY
        obtain ⟨q2, fl, ct, om, K2, N2, O2, g1, g2, g3, g4, g5⟩ := oj
        cases fl with
        | false =>
          refine ⟨q2, false, ct, om, K2, N2, O2, g2, ?_, ?_, fun g => by cases g⟩
          · rw [L_X3_read_17, brn_neg _ _ (show ¬ (60 : Int32) ≤ I (c : Int) by rw [lit_60, I_le (by omega) (by omega) (by omega) (by omega)]; omega), brn_neg _ _ (show ¬ (1 : Int32) = 0 by decide), brn_neg _ _ (show ¬ I (n : Int) ≤ I (q : Int) by rw [I_le (by omega) (by omega) (by omega) (by omega)]; omega), x1, bnd_some]
            dsimp only
            rw [brn_neg _ _ (show ¬ (1 : Int32) = 0 by decide), g3, bnd_some]
            dsimp only
            rw [brn_pos _ _ (show (0 : Nat) = 0 from rfl), brn_pos _ _ (show bI false = 0 from rfl)]
            unfold J_X3_read_58 J_X3_read_59
            obtain ⟨f, rfl⟩ : ∃ g, f = g + 1 := ⟨f - 1, by omega⟩
            exact x_badEnd f _ ct er (I q2) K2 N2
          · rw [L_X12_run_19, y1, bnd_some, brn_neg _ _ (show ¬ (1 : Int32) = 0 by decide), kk, g4, bnd_some]
            dsimp only
            rw [brn_pos _ _ (show (0 : Nat) = 0 from rfl)]
            obtain ⟨f2, rfl⟩ : ∃ g, f2 = g + 1 := ⟨f2 - 1, by omega⟩
            exact m_badEnd f2 pm th rs dt rf (I n) (I q2) er2 om s bf past O2
        | true =>
          obtain ⟨g6, rfl, rfl, g7, g8⟩ := g5 rfl
          obtain ⟨q3, fl3, ct3, om3, K3, N3, O3, z1, z2, z3, z4⟩ := ih (c + 1) q2 f f2 K2 N2 O2 (by omega) (by omega) (by omega) g2 (by omega) (fun j hj => by
            by_cases e : j = c + 1
            · rw [e]; exact g7
            · have := g8 j (by omega)
              exact OKo_keep (h6 j (by omega)) this.1 this.2.1 this.2.2)
          refine ⟨q3, fl3, ct3, om3, K3, N3, O3, z1, ?_, ?_, z4⟩
          · rw [L_X3_read_17, brn_neg _ _ (show ¬ (60 : Int32) ≤ I (c : Int) by rw [lit_60, I_le (by omega) (by omega) (by omega) (by omega)]; omega), brn_neg _ _ (show ¬ (1 : Int32) = 0 by decide), brn_neg _ _ (show ¬ I (n : Int) ≤ I (q : Int) by rw [I_le (by omega) (by omega) (by omega) (by omega)]; omega), x1, bnd_some]
            dsimp only
            rw [brn_neg _ _ (show ¬ (1 : Int32) = 0 by decide), g3, bnd_some]
            dsimp only
            rw [brn_pos _ _ (show (0 : Nat) = 0 from rfl), brn_neg _ _ (show ¬ bI true = 0 by decide)]
            unfold J_X3_read_59
            rw [kc]
            exact z2
          · rw [L_X12_run_19, y1, bnd_some, brn_neg _ _ (show ¬ (1 : Int32) = 0 by decide), kk, g4, bnd_some]
            dsimp only
            rw [brn_pos _ _ (show (0 : Nat) = 0 from rfl)]
            exact z3
      · refine ⟨q, false, I ((c + 1 : Nat) : Int), I ((c + 1 : Nat) : Int), K, N, O, h4, ?_, ?_, fun g => by cases g⟩
        · rw [L_X3_read_17, brn_neg _ _ (show ¬ (60 : Int32) ≤ I (c : Int) by rw [lit_60, I_le (by omega) (by omega) (by omega) (by omega)]; omega), brn_neg _ _ (show ¬ (1 : Int32) = 0 by decide), brn_neg _ _ (show ¬ I (n : Int) ≤ I (q : Int) by rw [I_le (by omega) (by omega) (by omega) (by omega)]; omega), x1, bnd_some]
          dsimp only
          rw [brn_pos _ _ (show (0 : Int32) = 0 from rfl)]
          unfold J_X3_read_58 J_X3_read_59
          obtain ⟨f, rfl⟩ : ∃ g, f = g + 1 := ⟨f - 1, by omega⟩
          exact x_badEnd f _ _ er (I q) K N
        · rw [L_X12_run_19, y1, bnd_some, brn_pos _ _ (show (0 : Int32) = 0 from rfl), brn_pos _ _ (show (0 : Int32) = 0 from rfl), brn_neg _ _ (show ¬ I (n : Int) ≤ I (q : Int) by rw [I_le (by omega) (by omega) (by omega) (by omega)]; omega)]
          unfold J_X12_run_66 J_X12_run_71
          rw [grd_pos _ (Or.inr rfl), brn_neg _ _ (show ¬ (1 : Int32) = 0 by decide)]
          rfl
    · refine ⟨q, true, I ((c + 1 : Nat) : Int), I ((c + 1 : Nat) : Int), K, N, O, h4, ?_, ?_, fun _ => ⟨c + 1, by omega, rfl, rfl, h6⟩⟩
      · rw [L_X3_read_17, brn_neg _ _ (show ¬ (60 : Int32) ≤ I (c : Int) by rw [lit_60, I_le (by omega) (by omega) (by omega) (by omega)]; omega), brn_neg _ _ (show ¬ (1 : Int32) = 0 by decide), brn_pos _ _ (show I (n : Int) ≤ I (q : Int) by rw [I_le (by omega) (by omega) (by omega) (by omega)]; omega)]
        unfold J_X3_read_66 J_X3_read_79
        rw [brn_neg _ _ (show ¬ (1 : Int32) = 0 by decide), grd_pos _ (Or.inr rfl)]
        rfl
      · have y1 := ih_n (Y := Y) (p := q) (lo := 59) (hi := 59) hn (by omega) (by omega) (by omega) (Or.inl hq)
        rw [← lit_59] at y1
        rw [L_X12_run_19, y1, bnd_some, brn_pos _ _ (show (0 : Int32) = 0 from rfl), brn_pos _ _ (show (0 : Int32) = 0 from rfl), brn_pos _ _ (show I (n : Int) ≤ I (q : Int) by rw [I_le (by omega) (by omega) (by omega) (by omega)]; omega)]
        unfold J_X12_run_71
        rw [grd_pos _ (Or.inl rfl), brn_pos _ _ (show (0 : Int32) = 0 from rfl)]
        rfl
theorem rd_all (hn : n ≤ 60) (hXY : ∀ i, i < n → X i = Y i) (ct0 pl0 er er2 pm th rs dt rf at0 wr0 om0 : Int32) (s bf past K N O : Nat → Int32) :
    ∃ (q2 : Nat) (fl : Bool) (ct om : Int32) (K2 N2 O2 : Nat → Int32), q2 ≤ n ∧ F_X3_read (I n) X ct0 pl0 er K N = some (0, bI fl, ct, I q2, eP fl q2, K2, N2) ∧ F_X12_run Y pm th rs dt rf (I n) at0 wr0 er2 om0 s bf past O = J_X12_run_90 Y (eP fl q2) pm th rs dt rf (I n) (I q2) (bI (!fl)) er2 om s bf past O2 ∧ (fl = true → ∃ c2 : Nat, c2 ≤ 20 ∧ ct = I c2 ∧ om = I c2 ∧ ∀ j, j < c2 → OKo K2 N2 O2 j) := by
  have oj := ro_all (X := X) (Y := Y) (n := n) (p := 0) (c := 0) (K := K) (N := N) (O := O) hn (by omega) (by omega) hXY
  obtain ⟨q2, fl, ct, om, K2, N2, O2, g1, g2, g3, g4, g5⟩ := oj
  have g3 : F_X3_readOrder (I n) X 0 0 K N = some (0, bI fl, ct, I q2, K2, N2) := g3
  have g4 : F_X12_readOrder (I n) Y 0 0 0 O = some (0, I q2, bI (!fl), om, O2) := g4
  unfold F_X3_read F_X12_run
  rw [g3, g4, bnd_some, bnd_some]
  dsimp only
  rw [brn_pos _ _ (show (0 : Nat) = 0 from rfl), brn_pos _ _ (show (0 : Nat) = 0 from rfl)]
  cases fl with
  | false => exact ⟨q2, false, ct, om, K2, N2, O2, g2, x_badEnd 99 0 ct er (I q2) K2 N2, m_badEnd 99 pm th rs dt rf (I n) (I q2) er2 om s bf past O2, fun g => by cases g⟩
  | true =>
    obtain ⟨g6, rfl, rfl, g7, g8⟩ := g5 rfl
    obtain ⟨q3, fl3, ct3, om3, K3, N3, O3, z1, z2, z3, z4⟩ := rd (X := X) (Y := Y) hn hXY er er2 pm th rs dt rf s bf past 61 0 q2 100 100 K2 N2 O2 (by omega) (by omega) (by omega) g2 (by omega) (fun j hj => by
      have : j = 0 := by omega
      rw [this]
      exact g7)
    exact ⟨q3, fl3, ct3, om3, K3, N3, O3, z1, z2, z3, z4⟩
end RDA
