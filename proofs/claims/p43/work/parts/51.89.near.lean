/-! ===== bits (out of kit/laws/BITS.to-paste) ===== -/
def bt (x : Int32) (i : Nat) : Bool := x.toBitVec.getLsbD i
theorem b_ext {x y : Int32} (h : ∀ i, i < 32 → bt x i = bt y i) : x = y := Int32.toBitVec_inj.mp (BitVec.eq_of_getLsbD_eq (fun i hi => h i hi))
theorem b_or (x y : Int32) (i : Nat) : bt (x ||| y) i = (bt x i || bt y i) := by unfold bt; rw [Int32.toBitVec_or, BitVec.getLsbD_or]
theorem b_and (x y : Int32) (i : Nat) : bt (x &&& y) i = (bt x i && bt y i) := by unfold bt; rw [Int32.toBitVec_and, BitVec.getLsbD_and]
theorem b_0 (i : Nat) : bt 0 i = false := BitVec.getLsbD_zero
theorem s_l : ∀ n, n < 32 → ((nI n &&& 31).toBitVec.smod 32).toNat = n := by decide +kernel
theorem b_shl (n : Nat) (hn : n < 32) (x : Int32) {i : Nat} (hi : i < 32) : bt (x <<< (nI n &&& 31)) i = (decide (n ≤ i) && bt x (i - n)) := by
  unfold bt
  rw [Int32.toBitVec_shiftLeft]
  show (x.toBitVec <<< ((nI n &&& 31).toBitVec.smod 32).toNat).getLsbD i = _
  rw [s_l n hn, BitVec.getLsbD_shiftLeft]
  rcases Nat.lt_or_ge i n with h | h
  · simp [h, Nat.not_le.mpr h]
  · simp [hi, h, Nat.not_lt.mpr h]
theorem b_sshr (n : Nat) (hn : n < 32) (x : Int32) {i : Nat} (hi : i < 32) : bt (x >>> (nI n &&& 31)) i = if n + i < 32 then bt x (n + i) else bt x 31 := by
  unfold bt
  rw [Int32.toBitVec_shiftRight]
  show (x.toBitVec.sshiftRight ((nI n &&& 31).toBitVec.smod 32).toNat).getLsbD i = _
  rw [s_l n hn, BitVec.getLsbD_sshiftRight, BitVec.msb_eq_getLsbD_last]
  simp [hi]
theorem nI_I (n : Nat) : I (n : Int) = nI n := (oN n).symm
theorem bt_1 : ∀ i, i < 32 → bt 1 i = decide (i = 0) := by decide +kernel
theorem bit_0 (B : Int32) {h : Nat} (hh : h < 32) : (((B >>> (I (h : Int) &&& 31)) &&& 1) = 0) = (bt B h = false) := by
  rw [nI_I]
  refine propext ⟨fun q => ?_, fun q => ?_⟩
  · have g := congrArg (fun z => bt z 0) q
    simp only [b_and, b_0, b_sshr h hh B (show (0 : Nat) < 32 by omega), bt_1 0 (by omega)] at g
    rw [if_pos (by omega), Nat.add_zero] at g
    simpa using g
  · refine b_ext (fun i hi => ?_)
    rw [b_and, b_0, b_sshr h hh B hi, bt_1 i hi]
    by_cases e : i = 0
    · rw [e, if_pos (by omega), Nat.add_zero, q]
      rfl
    · rw [decide_eq_false e, Bool.and_false]
theorem bit_or (B : Int32) {g h : Nat} (hg : g < 32) (hh : h < 32) : bt (B ||| ((1 : Int32) <<< (I (g : Int) &&& 31))) h = (bt B h || decide (h = g)) := by
  rw [nI_I, b_or, b_shl g hg 1 hh]
  congr 1
  by_cases e : g ≤ h
  · rw [decide_eq_true e, bt_1 _ (by omega), Bool.true_and]
    exact decide_eq_decide.mpr (by omega)
  · rw [decide_eq_false e, Bool.false_and, decide_eq_false (by omega)]

/-! ===== the house to which the way is the shortest ===== -/
/-- gone to already -/
def vs (S : Nat → Int) (m h : Nat) : Bool := !decide (fIx (fun i => decide (S i = (h : Int))) m 0 = -1)
theorem vs_f (S : Nat → Int) (m h : Nat) : vs S m h = false ↔ ∀ i, i < m → S i ≠ h := by
  unfold vs
  rw [Bool.not_eq_false', decide_eq_true_eq]
  rcases fIx_sp (fun i => decide (S i = (h : Int))) m 0 with ⟨h1, h2⟩ | ⟨i, h1, h2, h3, h4, h5⟩
  · exact ⟨fun _ i hi => of_decide_eq_false (h2 i (by omega) (by omega)), fun _ => h1⟩
  · refine ⟨fun q => by rw [h4] at q; omega, fun q => absurd (of_decide_eq_true h3) (q i (by omega))⟩
def nrF (C : Nat → Int) (V : Nat → Bool) : Nat → Nat → Int → Int
  | 0, _, b => b
  | r + 1, k, b => nrF C V r (k + 1) (if V k = false ∧ 0 ≤ C k ∧ (b < 0 ∨ C k < C b.toNat) then k else b)
/-- none, or a house not gone to with a way to it -/
def nrI (C : Nat → Int) (V : Nat → Bool) (n : Int) (b : Int) : Prop := b = -1 ∨ (0 ≤ b ∧ b < n ∧ V b.toNat = false ∧ 0 ≤ C b.toNat)
theorem nrI_st {C : Nat → Int} {V : Nat → Bool} {n b : Int} {k : Nat} (hk : (k : Int) < n) (h : nrI C V n b) : nrI C V n (if V k = false ∧ 0 ≤ C k ∧ (b < 0 ∨ C k < C b.toNat) then k else b) := by
  by_cases q : V k = false ∧ 0 ≤ C k ∧ (b < 0 ∨ C k < C b.toNat)
  · rw [if_pos q]
    exact Or.inr ⟨by omega, hk, q.1, q.2.1⟩
  · rw [if_neg q]
    exact h
theorem nrF_in {C : Nat → Int} {V : Nat → Bool} {n : Int} : ∀ (r k : Nat) (b : Int), (k : Int) + r ≤ n → nrI C V n b → nrI C V n (nrF C V r k b) := by
  intro r
  induction r with
  | zero => intro k b hk h; exact h
  | succ r ih =>
    intro k b hk h
    exact ih (k + 1) _ (by omega) (nrI_st (by omega) h)
section NEA
variable {b : Int} {σ D : Nat → Int} {v : TVal}
/-- the steps to a house -/
def cD (σ D : Nat → Int) (h : Nat) : Int := D (σ (77 + 5 * h)).toNat
theorem nrF_t {C : Nat → Int} {V : Nat → Bool} {r k : Nat} {g : Int} (q : V k = false ∧ 0 ≤ C k ∧ (g < 0 ∨ C k < C g.toNat)) : nrF C V (r + 1) k g = nrF C V r (k + 1) k := by
  rw [nrF, if_pos q]
theorem nrF_f {C : Nat → Int} {V : Nat → Bool} {r k : Nat} {g : Int} (q : ¬ (V k = false ∧ 0 ≤ C k ∧ (g < 0 ∨ C k < C g.toNat))) : nrF C V (r + 1) k g = nrF C V r (k + 1) g := by
  rw [nrF, if_neg q]
theorem x_near (h : WF b σ) (T : TR σ v) {st stops : Nat → Int32} (hst : AR st D 64) (hD : ∀ c : Nat, c < 64 → -1 ≤ D c ∧ D c ≤ 63) {S : Nat → Int} {m : Nat} (hS : AR stops S m) (hm : m ≤ 10) (hr : ∀ k, InR (S k)) : ∀ (r k f : Nat) (g l R : Int), (k : Int) + r = σ 2 → r < f → nrI (cD σ D) (vs S m) (σ 2) g → (l = if g < 0 then -1 else cD σ D g.toNat) → R = nrF (cD σ D) (vs S m) r k g →
    L_X10_nearest_7 (I m) st stops (I (σ 2)) (v.2 0) f (I g) (I l) (I k) = some (I R) := by
  have hn := h.n
  intro r
  induction r with
  | zero =>
    intro k f g l R hk hf hg hl hR
    obtain ⟨f, rfl⟩ : ∃ g, f = g + 1 := ⟨f - 1, by omega⟩
    rw [L_X10_nearest_7]
    unfold F_X2_size
    rw [bnd_some, brn_pos _ _ (by rw [I_le (by omega) (by omega) (by omega) (by omega)]; omega), hR]
    rfl
  | succ r ih =>
    intro k f g l R hk hf hg hl hR
    obtain ⟨f, rfl⟩ : ∃ g, f = g + 1 := ⟨f - 1, by omega⟩
    have hc := h.house (i := k) (by omega)
    obtain ⟨c, ec⟩ := Int.eq_ofNat_of_zero_le hc.1.1
    have c64 : c < 64 := by omega
    have eD : cD σ D k = D c := by unfold cD; rw [ec]; rfl
    have bD := hD c c64
    have kk : I (k : Int) + 1 = I ((k + 1 : Nat) : Int) := by rw [lit_1, I_add]; congr 1
    have hp : F_X7_placeOf 10 (I m) (I k) stops = some (I (fIx (fun i => decide (S i = (k : Int))) m 0)) := x_place10 hS (by omega) (show (m : Int) ≤ 10 by omega) hr (show InR (k : Int) by omega)
    have gb : -1 ≤ g ∧ g < σ 2 := by rcases hg with q | q <;> omega
    have bg : g < 0 ∧ l = -1 ∨ 0 ≤ g ∧ l = cD σ D g.toNat ∧ 0 ≤ l ∧ l ≤ 63 := by
      rcases hg with q | q
      · exact Or.inl ⟨by omega, by rw [hl, if_pos (by omega)]⟩
      · rw [if_neg (by omega)] at hl
        refine Or.inr ⟨q.1, hl, by rw [hl]; exact q.2.2.2, ?_⟩
        have hc2 := h.house (i := g.toNat) (by omega)
        rw [hl]
        unfold cD
        exact (hD _ (by omega)).2
    have pin : -1 ≤ fIx (fun i => decide (S i = (k : Int))) m 0 ∧ fIx (fun i => decide (S i = (k : Int))) m 0 ≤ 10 := by
      rcases fIx_sp (fun i => decide (S i = (k : Int))) m 0 with ⟨h1, -⟩ | ⟨i, h1, h2, h3, h4, -⟩ <;> omega
    have e0 : ¬ (vs S m k = false ∧ 0 ≤ cD σ D k ∧ (g < 0 ∨ cD σ D k < cD σ D g.toNat)) → L_X10_nearest_7 (I m) st stops (I (σ 2)) (v.2 0) f (I g) (I l) (I ((k + 1 : Nat) : Int)) = some (I R) := fun q => ih (k + 1) f g l R (by omega) (by omega) hg hl (hR.trans (nrF_f q))
    have e1 : (vs S m k = false ∧ 0 ≤ cD σ D k ∧ (g < 0 ∨ cD σ D k < cD σ D g.toNat)) → L_X10_nearest_7 (I m) st stops (I (σ 2)) (v.2 0) f (I k) (I (D c)) (I ((k + 1 : Nat) : Int)) = some (I R) := fun q => ih (k + 1) f k (D c) R (by omega) (by omega) (Or.inr ⟨by omega, by omega, by rw [Int.toNat_natCast]; exact q.1, by rw [Int.toNat_natCast]; exact q.2.1⟩) (by rw [if_neg (by omega), Int.toNat_natCast, eD]) (hR.trans (nrF_t q))
    rw [L_X10_nearest_7]
    unfold F_X2_size
    rw [bnd_some, brn_neg _ _ (by rw [I_le (by omega) (by omega) (by omega) (by omega)]; omega), x_hcell h T.a0 (i := k) (by omega), bnd_some, ec, show F_X7_at 64 (I ((c : Nat) : Int)) st = _ from x_at64 hst (i := c) (by omega) (by omega), bnd_some, hp, bnd_some]
    unfold J_X10_nearest_53 J_X10_nearest_77
    rw [kk]
    have ev : vs S m k = !decide (fIx (fun i => decide (S i = (k : Int))) m 0 = -1) := rfl
    by_cases q1 : fIx (fun i => decide (S i = (k : Int))) m 0 = -1
    · have v1 : vs S m k = false := by rw [ev, decide_eq_true q1]; rfl
      rw [brn_pos _ _ (by rw [q1, m1]), brn_neg _ _ (by decide)]
      by_cases q2 : D c = -1
      · rw [brn_pos _ _ (by rw [q2, m1])]
        exact e0 (fun q => by have := q.2.1; rw [eD] at this; omega)
      · rw [brn_neg _ _ (by rw [m1, I_eq (by omega) (by omega) (by omega) (by omega)]; exact q2)]
        rcases bg with ⟨g1, g2⟩ | ⟨g1, g2, g3, g4⟩
        · rw [brn_pos _ _ (by rw [g2, m1])]
          exact e1 ⟨v1, by rw [eD]; omega, Or.inl g1⟩
        · rw [brn_neg _ _ (by rw [m1, I_eq (by omega) (by omega) (by omega) (by omega)]; omega)]
          by_cases q4 : l ≤ D c
          · rw [brn_pos _ _ (by rw [I_le (by omega) (by omega) (by omega) (by omega)]; exact q4)]
            exact e0 (fun q => by have := q.2.2; rw [eD, ← g2] at this; omega)
          · rw [brn_neg _ _ (by rw [I_le (by omega) (by omega) (by omega) (by omega)]; exact q4)]
            exact e1 ⟨v1, by rw [eD]; omega, Or.inr (by rw [eD, ← g2]; omega)⟩
    · have v1 : vs S m k = true := by rw [ev, decide_eq_false q1]; rfl
      rw [brn_neg _ _ (by rw [m1, I_eq (by omega) (by omega) (by omega) (by omega)]; exact q1), brn_pos _ _ rfl]
      exact e0 (fun q => by have := q.1; rw [v1] at this; cases this)
theorem m_near (h : WF b σ) {st : Nat → Int32} (hst : AR st (RW D) 64) (hD : ∀ c : Nat, c < 64 → -1 ≤ D c ∧ D c ≤ 63) {S : Nat → Int} {m : Nat} {B : Int32} (hB : ∀ h : Nat, h < 10 → bt B h = vs S m h) (r27 : Int32 → Int32 → Int32 → Int32 → (Nat → Int32) → (Nat → Int32) → Option (Int32 × Int32 × (Nat → Int32) × (Nat → Int32))) (gm rs : Int32) (goes : Nat → Int32) : ∀ (r k f : Nat) (g R : Int), (k : Int) + r = σ 2 → r < f → nrI (cD σ D) (vs S m) (σ 2) g → R = nrF (cD σ D) (vs S m) r k g →
    L_X12_tellsRound_70 (J σ) r27 f (I g) B (I k) gm rs st goes = r27 (I R) B gm (rs + I (if R < 0 then 0 else cD σ D R.toNat)) st goes := by
  have hn := h.n
  have c2 : (2 : Int32).toNatClampNeg = 2 := by decide
  have cell : ∀ i : Nat, (i : Int) < σ 2 → ∃ c : Nat, c < 64 ∧ F_X12_cellOf (I i) (J σ) = some (I c) ∧ inb (I (c : Int)) 64 ∧ (I (c : Int)).toNatClampNeg = c ∧ cD σ D i = D c ∧ st c = I (RW D c) := by
    intro i hi
    have hc := h.house hi
    obtain ⟨c, ec⟩ := Int.eq_ofNat_of_zero_le hc.1.1
    refine ⟨c, by omega, by rw [m_cellOf h hi, ec], by rw [I_inb (by omega) (by omega)]; omega, by rw [I_cl (by omega) (by omega)]; omega, by unfold cD; rw [ec]; rfl, hst c (by omega)⟩
  intro r
  induction r with
  | zero =>
    intro k f g R hk hf hg hR
    obtain ⟨f, rfl⟩ : ∃ g, f = g + 1 := ⟨f - 1, by omega⟩
    have hR : R = g := hR
    have gb : -1 ≤ g ∧ g < σ 2 := by rcases hg with q | q <;> omega
    rw [hR, L_X12_tellsRound_70, grd_pos _ (by decide), c2, J_at, brn_pos _ _ (by rw [I_le (by omega) (by omega) (by omega) (by omega)]; omega)]
    unfold J_X12_tellsRound_178
    rcases hg with q | ⟨q1, q2, q3, q4⟩
    · rw [brn_neg _ _ (by rw [lit_0, I_le (by omega) (by omega) (by omega) (by omega)]; omega), if_pos (by omega)]
      rfl
    · obtain ⟨i, rfl⟩ := Int.eq_ofNat_of_zero_le q1
      obtain ⟨c, w1, w2, w3, w4, w5, w6⟩ := cell i q2
      rw [Int.toNat_natCast] at q4 ⊢
      have rc : RW D c = D c := if_neg (by omega)
      rw [brn_pos _ _ (by rw [lit_0, I_le (by omega) (by omega) (by omega) (by omega)]; omega), if_neg (by omega), w2, bnd_some, grd_pos _ w3, w4, w6, w5, rc]
  | succ r ih =>
    intro k f g R hk hf hg hR
    obtain ⟨f, rfl⟩ : ∃ g, f = g + 1 := ⟨f - 1, by omega⟩
    have gb : -1 ≤ g ∧ g < σ 2 := by rcases hg with q | q <;> omega
    obtain ⟨c, w1, w2, w3, w4, w5, w6⟩ := cell k (by omega)
    have bD := hD c w1
    have kk : I (k : Int) + 1 = I ((k + 1 : Nat) : Int) := by rw [lit_1, I_add]; congr 1
    have e0 : ¬ (vs S m k = false ∧ 0 ≤ cD σ D k ∧ (g < 0 ∨ cD σ D k < cD σ D g.toNat)) → L_X12_tellsRound_70 (J σ) r27 f (I g) B (I ((k + 1 : Nat) : Int)) gm rs st goes = r27 (I R) B gm (rs + I (if R < 0 then 0 else cD σ D R.toNat)) st goes := fun q => ih (k + 1) f g R (by omega) (by omega) hg (hR.trans (nrF_f q))
    have e1 : (vs S m k = false ∧ 0 ≤ cD σ D k ∧ (g < 0 ∨ cD σ D k < cD σ D g.toNat)) → L_X12_tellsRound_70 (J σ) r27 f (I k) B (I ((k + 1 : Nat) : Int)) gm rs st goes = r27 (I R) B gm (rs + I (if R < 0 then 0 else cD σ D R.toNat)) st goes := fun q => ih (k + 1) f k R (by omega) (by omega) (Or.inr ⟨by omega, by omega, by rw [Int.toNat_natCast]; exact q.1, by rw [Int.toNat_natCast]; exact q.2.1⟩) (hR.trans (nrF_t q))
    have rwk : RW D c = if D c = -1 then 1000 else D c := rfl
    rw [L_X12_tellsRound_70, grd_pos _ (by decide), c2, J_at, brn_neg _ _ (by rw [I_le (by omega) (by omega) (by omega) (by omega)]; omega)]
    unfold J_X12_tellsRound_108 J_X12_tellsRound_109 J_X12_tellsRound_147 J_X12_tellsRound_143 J_X12_tellsRound_148
    rw [kk]
    cases v1 : vs S m k with
    | true =>
      rw [brn_neg _ _ (by rw [bit_0 B (by omega), hB k (by omega), v1]; simp), brn_pos _ _ rfl]
      exact e0 (fun q => by have := q.1; rw [v1] at this; cases this)
    | false =>
      rw [brn_pos _ _ (by rw [bit_0 B (by omega), hB k (by omega), v1]), w2, bnd_some, grd_pos _ w3, w4, w6]
      by_cases q2 : D c = -1
      · rw [brn_pos _ _ (by rw [lit_1000, rwk, if_pos q2]; decide), brn_pos _ _ rfl]
        exact e0 (fun q => by have := q.2.1; rw [w5] at this; omega)
      · have rc : RW D c = D c := by rw [rwk, if_neg q2]
        rw [rc, brn_neg _ _ (by rw [lit_1000, I_le (by omega) (by omega) (by omega) (by omega)]; omega), brn_neg _ _ (by decide)]
        rcases hg with q | ⟨q3, q4, q5, q6⟩
        · rw [brn_pos _ _ (by rw [lit_0, I_lt (by omega) (by omega) (by omega) (by omega)]; omega)]
          exact e1 ⟨v1, by rw [w5]; omega, Or.inl (by omega)⟩
        · obtain ⟨i, rfl⟩ := Int.eq_ofNat_of_zero_le q3
          obtain ⟨d, x1, x2, x3, x4, x5, x6⟩ := cell i q4
          have bd := hD d x1
          rw [Int.toNat_natCast] at q6 e0 e1
          have rd : RW D d = D d := if_neg (by omega)
          rw [brn_neg _ _ (by rw [lit_0, I_lt (by omega) (by omega) (by omega) (by omega)]; omega), x2, bnd_some, grd_pos _ w3, bnd_some, grd_pos _ x3, x4, w4, x6, w6, rc, rd]
          by_cases q7 : D d ≤ D c
          · rw [brn_pos _ _ (by rw [I_le (by omega) (by omega) (by omega) (by omega)]; exact q7)]
            exact e0 (fun q => by have := q.2.2; rw [w5, x5] at this; omega)
          · rw [brn_neg _ _ (by rw [I_le (by omega) (by omega) (by omega) (by omega)]; exact q7)]
            exact e1 ⟨v1, by rw [w5]; omega, Or.inr (by rw [w5, x5]; omega)⟩
end NEA
