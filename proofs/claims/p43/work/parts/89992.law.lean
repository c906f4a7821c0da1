/-! ===== gone: the law's own round, told over ===== -/
def bkF (C : Nat → Int) (V : Nat → Bool) : Nat → Int → Int
  | 0, b => b
  | k + 1, b => bkF C V k (if V k = false ∧ 0 ≤ C k ∧ (b < 0 ∨ C k ≤ C b.toNat) then k else b)
/-- the nearest of the houses from lo up to hi, of several the lowest -/
def amP (C : Nat → Int) (V : Nat → Bool) (lo hi : Nat) (R : Int) : Prop :=
  (R = -1 ∧ ∀ i : Nat, lo ≤ i → i < hi → ¬ (V i = false ∧ 0 ≤ C i)) ∨
  (∃ j : Nat, R = j ∧ lo ≤ j ∧ j < hi ∧ V j = false ∧ 0 ≤ C j ∧ ∀ i : Nat, lo ≤ i → i < hi → V i = false → 0 ≤ C i → C j < C i ∨ C j = C i ∧ j ≤ i)
section AMP
variable {C : Nat → Int} {V : Nat → Bool}
theorem amP_uni {lo hi : Nat} {R Q : Int} (h : amP C V lo hi R) (g : amP C V lo hi Q) : R = Q := by
  rcases h with ⟨h1, h2⟩ | ⟨j, h1, h2, h3, h4, h5, h6⟩
  · rcases g with ⟨g1, g2⟩ | ⟨k, g1, g2, g3, g4, g5, g6⟩
    · omega
    · exact absurd ⟨g4, g5⟩ (h2 k g2 g3)
  · rcases g with ⟨g1, g2⟩ | ⟨k, g1, g2, g3, g4, g5, g6⟩
    · exact absurd ⟨h4, h5⟩ (g2 j h2 h3)
    · have a := h6 k g2 g3 g4 g5
      have c := g6 j h2 h3 h4 h5
      omega
theorem nr_am : ∀ (r k : Nat) (b : Int), amP C V 0 k b → amP C V 0 (k + r) (nrF C V r k b) := by
  intro r
  induction r with
  | zero => intro k b h; exact h
  | succ r ih =>
    intro k b h
    rw [nrF, show k + (r + 1) = (k + 1) + r by omega]
    refine ih (k + 1) _ ?_
    by_cases q : V k = false ∧ 0 ≤ C k ∧ (b < 0 ∨ C k < C b.toNat)
    · rw [if_pos q]
      refine Or.inr ⟨k, rfl, by omega, by omega, q.1, q.2.1, fun i h1 h2 h3 h4 => ?_⟩
      by_cases e : i = k
      · rw [e]; exact Or.inr ⟨rfl, Nat.le_refl _⟩
      · rcases h with ⟨g1, g2⟩ | ⟨j, g1, g2, g3, g4, g5, g6⟩
        · exact absurd ⟨h3, h4⟩ (g2 i h1 (by omega))
        · have a := g6 i h1 (by omega) h3 h4
          have c := q.2.2
          rw [g1, Int.toNat_natCast] at c
          omega
    · rw [if_neg q]
      rcases h with ⟨g1, g2⟩ | ⟨j, g1, g2, g3, g4, g5, g6⟩
      · refine Or.inl ⟨g1, fun i h1 h2 h3 => ?_⟩
        by_cases e : i = k
        · rw [e] at h3
          exact q ⟨h3.1, h3.2, Or.inl (by omega)⟩
        · exact g2 i h1 (by omega) h3
      · refine Or.inr ⟨j, g1, g2, by omega, g4, g5, fun i h1 h2 h3 h4 => ?_⟩
        by_cases e : i = k
        · rw [e] at h3 h4 ⊢
          have : ¬ C k < C j := fun w => q ⟨h3, h4, Or.inr (by rw [g1, Int.toNat_natCast]; exact w)⟩
          omega
        · exact g6 i h1 (by omega) h3 h4
theorem bk_am {n : Nat} : ∀ (k : Nat) (b : Int), k ≤ n → amP C V k n b → amP C V 0 n (bkF C V k b) := by
  intro k
  induction k with
  | zero => intro b hk h; exact h
  | succ k ih =>
    intro b hk h
    rw [bkF]
    refine ih _ (by omega) ?_
    by_cases q : V k = false ∧ 0 ≤ C k ∧ (b < 0 ∨ C k ≤ C b.toNat)
    · rw [if_pos q]
      refine Or.inr ⟨k, rfl, by omega, by omega, q.1, q.2.1, fun i h1 h2 h3 h4 => ?_⟩
      by_cases e : i = k
      · rw [e]; exact Or.inr ⟨rfl, Nat.le_refl _⟩
      · rcases h with ⟨g1, g2⟩ | ⟨j, g1, g2, g3, g4, g5, g6⟩
        · exact absurd ⟨h3, h4⟩ (g2 i (by omega) h2)
        · have a := g6 i (by omega) h2 h3 h4
          have c := q.2.2
          rw [g1, Int.toNat_natCast] at c
          omega
    · rw [if_neg q]
      rcases h with ⟨g1, g2⟩ | ⟨j, g1, g2, g3, g4, g5, g6⟩
      · refine Or.inl ⟨g1, fun i h1 h2 h3 => ?_⟩
        by_cases e : i = k
        · rw [e] at h3
          exact q ⟨h3.1, h3.2, Or.inl (by omega)⟩
        · exact g2 i (by omega) h2 h3
      · refine Or.inr ⟨j, g1, by omega, g3, g4, g5, fun i h1 h2 h3 h4 => ?_⟩
        by_cases e : i = k
        · rw [e] at h3 h4 ⊢
          have : ¬ C k ≤ C j := fun w => q ⟨h3, h4, Or.inr (by rw [g1, Int.toNat_natCast]; exact w)⟩
          omega
        · exact g6 i (by omega) h2 h3 h4
theorem bk_nr (n : Nat) : bkF C V n (-1) = nrF C V n 0 (-1) := by
  have a := bk_am (C := C) (V := V) (n := n) n (-1) (Nat.le_refl _) (Or.inl ⟨rfl, fun i h1 h2 => by omega⟩)
  have c := nr_am (C := C) (V := V) n 0 (-1) (Or.inl ⟨rfl, fun i h1 h2 => by omega⟩)
  rw [Nat.zero_add] at c
  exact amP_uni a c
end AMP
section G195
variable {b : Int} {σ D : Nat → Int} {x : XVal} {L : Nat} {xs bl : Nat → Int32}
theorem g195 (h : WF b σ) (T : TR σ (xT x)) {a : Nat → Int32} (ha : AR a (RW D) 64) (hD : ∀ c : Nat, c < 64 → -1 ≤ D c ∧ D c ≤ 63) {V : Nat → Bool} {B : Int32} (hB : ∀ h : Nat, h < 10 → bt B h = V h) (r153 : Int32 → Int32 → Int32 → Int32 → Int32 → Int32 → XVal → Option (Int32 × XVal)) (x8 x9 : Int32) : ∀ (j f : Nat) (g : Int), (j : Int) ≤ σ 2 → j < f → nrI (cD σ D) V (σ 2) g →
    L_L_gone_195 L xs bl r153 f (I (σ 2)) B x8 x9 (I g) (I ((j : Int) - 1)) x a = L_L_gone_195 L xs bl r153 1 (I (σ 2)) B x8 x9 (I (bkF (cD σ D) V j g)) (I (-1)) x a := by
  have hn := h.n
  intro j
  induction j with
  | zero =>
    intro f g hj hf hg
    obtain ⟨f, rfl⟩ : ∃ g, f = g + 1 := ⟨f - 1, by omega⟩
    show L_L_gone_195 L xs bl r153 (f + 1) (I (σ 2)) B x8 x9 (I g) (I (-1)) x a = L_L_gone_195 L xs bl r153 1 (I (σ 2)) B x8 x9 (I g) (I (-1)) x a
    rw [L_L_gone_195, L_L_gone_195, brn_pos _ _ (show I (-1) < 0 by decide), brn_pos _ _ (show I (-1) < 0 by decide)]
  | succ k ih =>
    intro f g hj hf hg
    obtain ⟨f, rfl⟩ : ∃ g, f = g + 1 := ⟨f - 1, by omega⟩
    have cell : ∀ i : Nat, (i : Int) < σ 2 → ∃ c : Nat, c < 64 ∧ F_L_of (I i) (0 : Int32) x = some (I c) ∧ inb (I (c : Int)) 64 ∧ (I (c : Int)).toNatClampNeg = c ∧ cD σ D i = D c ∧ a c = I (RW D c) := by
      intro i hi
      have hc := h.house hi
      obtain ⟨c, ec⟩ := Int.eq_ofNat_of_zero_le hc.1.1
      refine ⟨c, by omega, by rw [l_of0 h T hi, ec], by rw [I_inb (by omega) (by omega)]; omega, by rw [I_cl (by omega) (by omega)]; omega, by unfold cD; rw [ec]; rfl, ha c (by omega)⟩
    have gb : -1 ≤ g ∧ g < σ 2 := by rcases hg with q | q <;> omega
    obtain ⟨c, w1, w2, w3, w4, w5, w6⟩ := cell k (by omega)
    have bD := hD c w1
    have e0 : ¬ (V k = false ∧ 0 ≤ cD σ D k ∧ (g < 0 ∨ cD σ D k ≤ cD σ D g.toNat)) → L_L_gone_195 L xs bl r153 f (I (σ 2)) B x8 x9 (I g) (I ((k : Int) - 1)) x a = L_L_gone_195 L xs bl r153 1 (I (σ 2)) B x8 x9 (I (bkF (cD σ D) V (k + 1) g)) (I (-1)) x a := fun q => by
      rw [bkF, if_neg q]
      exact ih f g (by omega) (by omega) hg
    have e1 : (V k = false ∧ 0 ≤ cD σ D k ∧ (g < 0 ∨ cD σ D k ≤ cD σ D g.toNat)) → L_L_gone_195 L xs bl r153 f (I (σ 2)) B x8 x9 (I k) (I ((k : Int) - 1)) x a = L_L_gone_195 L xs bl r153 1 (I (σ 2)) B x8 x9 (I (bkF (cD σ D) V (k + 1) g)) (I (-1)) x a := fun q => by
      rw [bkF, if_pos q]
      exact ih f k (by omega) (by omega) (Or.inr ⟨by omega, by omega, by rw [Int.toNat_natCast]; exact q.1, by rw [Int.toNat_natCast]; exact q.2.1⟩)
    have em : I (k : Int) + (-1) = I ((k : Int) - 1) := by rw [m1, I_add]; rfl
    have rwk : RW D c = if D c = -1 then 1000 else D c := rfl
    rw [show (((k + 1 : Nat) : Int) - 1) = (k : Int) by omega, L_L_gone_195, brn_neg _ _ (by rw [lit_0, I_lt (by omega) (by omega) (by omega) (by omega)]; omega), w2, bnd_some, grd_pos _ w3, w4, w6]
    unfold J_L_gone_255 J_L_gone_250 J_L_gone_257
    rw [em]
    cases v1 : V k with
    | true =>
      rw [brn_neg _ _ (by rw [bit_0 B (by omega), hB k (by omega), v1]; simp)]
      exact e0 (fun q => by have := q.1; rw [v1] at this; cases this)
    | false =>
      rw [brn_pos _ _ (by rw [bit_0 B (by omega), hB k (by omega), v1])]
      by_cases q2 : D c = -1
      · rw [brn_pos _ _ (by rw [rwk, if_pos q2]; decide)]
        exact e0 (fun q => by have := q.2.1; rw [w5] at this; omega)
      · have rc : RW D c = D c := by rw [rwk, if_neg q2]
        rw [rc, brn_neg _ _ (by rw [lit_1000, I_le (by omega) (by omega) (by omega) (by omega)]; omega)]
        rcases hg with q | ⟨q3, q4, q5, q6⟩
        · rw [brn_pos _ _ (by rw [lit_0, I_lt (by omega) (by omega) (by omega) (by omega)]; omega)]
          exact e1 ⟨v1, by rw [w5]; omega, Or.inl (by omega)⟩
        · obtain ⟨i, rfl⟩ := Int.eq_ofNat_of_zero_le q3
          obtain ⟨d, y1, y2, y3, y4, y5, y6⟩ := cell i q4
          have bd := hD d y1
          rw [Int.toNat_natCast] at q6 e0 e1
          have rd : RW D d = D d := if_neg (by omega)
          rw [brn_neg _ _ (by rw [lit_0, I_lt (by omega) (by omega) (by omega) (by omega)]; omega), y2, bnd_some, grd_pos _ y3, y4, y6, rd]
          by_cases q7 : D d < D c
          · rw [brn_pos _ _ (by rw [I_lt (by omega) (by omega) (by omega) (by omega)]; exact q7)]
            exact e0 (fun q => by have := q.2.2; rw [w5, y5] at this; omega)
          · rw [brn_neg _ _ (by rw [I_lt (by omega) (by omega) (by omega) (by omega)]; exact q7)]
            exact e1 ⟨v1, by rw [w5]; omega, Or.inr (by rw [w5, y5]; omega)⟩
end G195
section G153
variable {b : Int} {σ π G A : Nat → Int} {n e : Nat} {DD : Nat → Nat → Int} {N L : Nat} {xs bl : Nat → Int32}
theorem g153 (hbl : ∀ c, c < 64 → bl c = I (σ (13 + c))) (hDD : ∀ c : Nat, c < 64 → WY (fun c => blkB σ c) c (DD c)) (hRD : RD (cH σ DD) (σ 2) G A N) : ∀ (r m f : Nat) (B : Int32) (x : XVal) (y : MVal), m + r = N → r < f → (0 ≤ G m → ∀ h : Nat, h < 10 → bt B h = vs G (m + 1) h) → St b σ π n e x y →
    ∃ x2 y2, L_L_gone_153 L xs bl f (I (σ 2)) B (I (G m)) (I m) (I (A m)) (if G m < 0 then 0 else 1) x = L_L_gone_332 L xs bl 11 (I (σ 2)) (I N) (I (A N)) (-1 : Int32) (0 : Int32) x2 ∧ St b σ π n e x2 y2 := by
  obtain ⟨-, -, gs, n1, n2, n3, n4⟩ := id hRD
  intro r
  induction r with
  | zero =>
    intro m f B x y hm hf hB hR
    obtain ⟨f, rfl⟩ : ∃ g, f = g + 1 := ⟨f - 1, by omega⟩
    have hm : m = N := by omega
    subst hm
    refine ⟨x, y, ?_, hR⟩
    rw [L_L_gone_153, if_pos (by omega), brn_pos _ _ rfl]
  | succ r ih =>
    intro m f B x y hm hf hB hR
    obtain ⟨f, rfl⟩ : ∃ g, f = g + 1 := ⟨f - 1, by omega⟩
    have gm := n3 m (by omega)
    obtain ⟨x1, y1, z1, R1⟩ := os_roundP hR hDD hRD (i := m) (by omega)
    have hw := R1.1.1
    have T := R1.1.2.2
    have hn := hw.n
    have hB := hB gm.1
    obtain ⟨p, ep⟩ := Int.eq_ofNat_of_zero_le gm.1
    rw [ep] at gm z1
    have hc := hw.house (i := p) (by omega)
    obtain ⟨c, ec⟩ := Int.eq_ofNat_of_zero_le hc.1.1
    have c64 : c < 64 := by omega
    have hWD := hDD c c64
    have hD : ∀ d : Nat, d < 64 → -1 ≤ DD c d ∧ DD c d ≤ 63 := fun d hd => ⟨hWD.2.1 d hd, WY_63 c64 hWD hd⟩
    have hbl2 : ∀ c : Nat, c < 64 → bl c = bI (blkB σ c) := fun c hc => by
      have hb := blk_at hw (c := (c : Int)) (by omega) (by omega)
      rw [show (13 + (c : Int)).toNat = 13 + c by omega] at hb
      rw [hbl c hc, hb, bI_I]
    obtain ⟨a, s1, s2⟩ := st_ok c64 hWD hbl2
    have gR := (gs m).1
    have aR := (gs m).2
    unfold cH at gR aR
    rw [ep, Int.toNat_natCast, ec, Int.toNat_natCast] at gR aR
    obtain ⟨R, hR⟩ : ∃ R, R = G (m + 1) := ⟨_, rfl⟩
    have nI := nrF_in (C := cD σ (DD c)) (V := vs G (m + 1)) (n := σ 2) (σ 2).toNat 0 (-1) (by omega) (Or.inl rfl)
    rw [← gR] at nI
    have g1 := g195 (L := L) (xs := xs) (bl := bl) hw T s2 hD hB (L_L_gone_153 L xs bl f) (I ((m + 1 : Nat) : Int)) (I (A m)) (σ 2).toNat 11 (-1) (by omega) (by omega) (Or.inl rfl)
    rw [bk_nr, ← gR, show (((σ 2).toNat : Nat) : Int) = σ 2 by omega] at g1
    have of0 : F_L_of (I (p : Int)) (0 : Int32) x1 = some (I c) := by rw [l_of0 hw T (by omega), ec]
    rw [L_L_gone_153, if_neg (by omega), brn_neg _ _ (by decide), ep, z1, bnd_some, brn_pos _ _ rfl, of0, bnd_some, show F_L_steps (I ((c : Nat) : Int)) bl = _ from s1, bnd_some, kk_I, show I (σ 2) - 1 = I (σ 2 - 1) by rw [lit_1, I_sub], m1, g1, L_L_gone_195, brn_pos _ _ (show I (-1) < 0 by decide)]
    unfold J_L_gone_275 J_L_gone_298 J_L_gone_316
    rw [← hR] at nI aR ⊢
    rcases nI with q | ⟨q1, q2, q3, q4⟩
    · obtain ⟨x2, y2, w1, w2⟩ := ih (m + 1) f (B ||| 0) x1 y1 (by omega) (by omega) (fun g => by omega) R1
      rw [← hR, if_pos (by omega), aR, if_pos (by omega), Int.add_zero] at w1
      refine ⟨x2, y2, ?_, w2⟩
      rw [brn_pos _ _ (by rw [q]; decide), brn_pos _ _ rfl, brn_pos _ _ rfl, show I (A m) + 0 = I (A m) by rw [lit_0, I_add, Int.add_zero]]
      exact w1
    · obtain ⟨i, ei⟩ := Int.eq_ofNat_of_zero_le q1
      rw [ei] at q2
      have hc2 := hw.house (i := i) (by omega)
      obtain ⟨d, ed⟩ := Int.eq_ofNat_of_zero_le hc2.1.1
      have eD : cD σ (DD c) i = DD c d := by unfold cD; rw [ed]; rfl
      rw [ei, Int.toNat_natCast, eD] at q4
      have of2 : F_L_of (I (i : Int)) (0 : Int32) x1 = some (I d) := by rw [l_of0 hw T (by omega), ed]
      have bd : RW (DD c) d = DD c d := if_neg (by omega)
      obtain ⟨x2, y2, w1, w2⟩ := ih (m + 1) f (B ||| ((1 : Int32) <<< (I (i : Int) &&& 31))) x1 y1 (by omega) (by omega) (fun g k hk => by
        rw [bit_or B (by omega) (by omega), hB k hk, vs_S G (m + 1), ← hR, ei]
        congr 1
        exact decide_eq_decide.mpr (by omega)) R1
      rw [← hR, if_neg (by omega), aR, if_neg (by omega), ei, Int.toNat_natCast, eD] at w1
      refine ⟨x2, y2, ?_, w2⟩
      rw [ei, brn_neg _ _ (by rw [lit_0, I_lt (by omega) (by omega) (by omega) (by omega)]; omega), brn_neg _ _ (by decide), of2, bnd_some, grd_pos _ (by rw [I_inb (by omega) (by omega)]; omega), brn_neg _ _ (by decide), I_cl (by omega) (by omega), Int.toNat_natCast, s2 d (by omega), bd, I_add]
      exact w1
end G153
