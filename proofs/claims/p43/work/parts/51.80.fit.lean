/-! ===== the cells of a prank, counted around a post ===== -/
theorem cnt_split (p : Nat → Bool) (c : Nat) : ∀ a k, cnt p (a + c) k = cnt p a k + cnt p c (k + a) := by
  intro a
  induction a with
  | zero => intro k; rw [cnt, Nat.zero_add, Nat.add_zero, Int.zero_add]
  | succ a ih =>
    intro k
    rw [show a + 1 + c = (a + c) + 1 by omega, cnt, cnt, ih, show k + 1 + a = k + (a + 1) by omega]
    omega
def inI (p : Nat → Bool) (u : Int) (r k : Nat) : Int := if (k : Int) ≤ u ∧ u < k + r ∧ p u.toNat = true then 1 else 0
theorem inI_s (p : Nat → Bool) (u : Int) (r k : Nat) : inI p u (r + 1) k = (if (k : Int) = u ∧ p k = true then 1 else 0) + inI p u r (k + 1) := by
  unfold inI
  by_cases e : (k : Int) = u
  · have e2 : u.toNat = k := by omega
    rw [e2, if_neg (show ¬ (((k + 1 : Nat) : Int) ≤ u ∧ u < ((k + 1 : Nat) : Int) + r ∧ p k = true) by omega)]
    by_cases h : p k = true
    · rw [if_pos ⟨by omega, by omega, h⟩, if_pos ⟨e, h⟩]; rfl
    · rw [if_neg (fun q => h q.2.2), if_neg (fun q => h q.2)]; rfl
  · have z : (if (k : Int) = u ∧ p k = true then (1 : Int) else 0) = 0 := if_neg (fun q => e q.1)
    rw [z, Int.zero_add]
    by_cases h : ((k + 1 : Nat) : Int) ≤ u ∧ u < ((k + 1 : Nat) : Int) + r ∧ p u.toNat = true
    · rw [if_pos ⟨by omega, by omega, h.2.2⟩, if_pos h]
    · rw [if_neg (fun q => h ⟨by omega, by omega, q.2.2⟩), if_neg h]
theorem cnt_two {p : Nat → Bool} {u w : Int} (hne : u ≠ w) : ∀ r k, (∀ i : Nat, k ≤ i → i < k + r → p i = true → (i : Int) = u ∨ (i : Int) = w) → cnt p r k = inI p u r k + inI p w r k := by
  intro r
  induction r with
  | zero =>
    intro k h
    unfold inI
    rw [if_neg (by omega), if_neg (by omega)]
    rfl
  | succ r ih =>
    intro k h
    rw [cnt, ih (k + 1) (fun i a b => h i (by omega) (by omega)), inI_s, inI_s]
    by_cases hp : p k = true
    · rw [if_pos hp]
      rcases h k (by omega) (by omega) hp with e | e
      · rw [if_pos ⟨e, hp⟩, if_neg (fun q => hne (e.symm.trans q.1))]; omega
      · rw [if_neg (show ¬ ((k : Int) = u ∧ p k = true) from fun q => hne (q.1.symm.trans e)), if_pos ⟨e, hp⟩]; omega
    · rw [if_neg hp, if_neg (fun q => hp q.2), if_neg (fun q => hp q.2)]; omega
theorem cnt_one {p : Nat → Bool} {u : Int} : ∀ r k, (∀ i : Nat, k ≤ i → i < k + r → p i = true → (i : Int) = u) → cnt p r k = inI p u r k := by
  intro r
  induction r with
  | zero =>
    intro k h
    unfold inI
    rw [if_neg (by omega)]
    rfl
  | succ r ih =>
    intro k h
    rw [cnt, ih (k + 1) (fun i a b => h i (by omega) (by omega)), inI_s]
    by_cases hp : p k = true
    · rw [if_pos hp, if_pos ⟨h k (by omega) (by omega) hp, hp⟩]
    · rw [if_neg hp, if_neg (fun q => hp q.2)]
section FIT
variable {b : Int} {σ : Nat → Int} {v : TVal}
def fitV (σ : Nat → Int) (r z : Int) : Int := if (0 ≤ z ∧ z ≤ 7) ∧ canB σ (8 * r + z) = true then 1 else 0
theorem x_countFit (h : WF b σ) (T : TR σ v) {r z : Int} (hr : 0 ≤ r ∧ r ≤ 7) (hz : InR z) : F_X9_countFit (I r) (I z) (I (σ 4)) (v.2 8) (v.2 9) (v.2 10) = some (I (fitV σ r z)) := by
  unfold F_X9_countFit fitV
  rw [x_cellAt (by omega) hz, bnd_some]
  by_cases e : 0 ≤ z ∧ z ≤ 7
  · rw [if_pos ⟨hr, e⟩, brn_neg _ _ (by rw [m1, I_eq (by omega) (by omega) (by omega) (by omega)]; omega), x_canBe h T.a8 T.a9 T.a10 (by omega) (by omega), bnd_some]
    cases hc : canB σ (8 * r + z)
    · rw [if_neg (fun q => by cases q.2)]; rfl
    · rw [if_pos ⟨e, rfl⟩]; rfl
  · rw [if_neg (fun q => e q.2), brn_pos _ _ (by decide), if_neg (fun q => e q.1)]
    rfl
theorem fitV_inI (σ : Nat → Int) (x : Nat) (z : Int) : fitV σ x z = inI (fun c => canB σ c) (8 * x + z) 8 (8 * x) := by
  unfold fitV inI
  by_cases e : 0 ≤ z ∧ z ≤ 7
  · have e2 : (((8 * (x : Int) + z).toNat : Nat) : Int) = 8 * x + z := by omega
    show _ = if _ ∧ _ ∧ canB σ (((8 * (x : Int) + z).toNat : Nat) : Int) = true then _ else _
    have e3 : canB σ (((8 * (x : Int) + z).toNat : Nat) : Int) = canB σ (8 * x + z) := by rw [e2]
    by_cases hc : canB σ (8 * x + z) = true
    · rw [if_pos ⟨e, hc⟩, if_pos ⟨by omega, by omega, e3.trans hc⟩]
    · rw [if_neg (fun q => hc q.2), if_neg (fun q => hc (e3.symm.trans q.2.2))]
  · rw [if_neg (fun q => e q.1), if_neg (fun q => e ⟨by omega, by omega⟩)]
/-- what a row holds of the cells at a post's distance -/
theorem row_fits (h : WF b σ) {i : Nat} (hi : (i : Int) < σ 4) (ht : 0 ≤ σ (140 + 2 * i)) {x : Nat} (hx : x < 8) :
    cnt (fun c => canB σ c) 8 (8 * x) = if σ (140 + 2 * i) - absI (x - σ (139 + 2 * i) / 8) < 0 then 0 else if σ (140 + 2 * i) - absI (x - σ (139 + 2 * i) / 8) ≤ 0 then fitV σ x (md (σ (139 + 2 * i)) 8 + (σ (140 + 2 * i) - absI (x - σ (139 + 2 * i) / 8))) else fitV σ x (md (σ (139 + 2 * i)) 8 + (σ (140 + 2 * i) - absI (x - σ (139 + 2 * i) / 8))) + fitV σ x (md (σ (139 + 2 * i)) 8 - (σ (140 + 2 * i) - absI (x - σ (139 + 2 * i) / 8))) := by
  have hp := h.post hi
  have key : ∀ j : Nat, 8 * x ≤ j → j < 8 * x + 8 → canB σ j = true → absI ((x : Int) - σ (139 + 2 * i) / 8) + absI ((j : Int) - 8 * x - md (σ (139 + 2 * i)) 8) = σ (140 + 2 * i) := by
    intro j h1 h2 hc
    unfold canB at hc
    rw [Bool.and_eq_true, allB_iff] at hc
    have := hc.2 i (by omega) (by omega)
    unfold agB at this
    rw [Bool.or_eq_true, decide_eq_true_eq, decide_eq_true_eq] at this
    have hf : far j (σ (139 + 2 * i)) = σ (140 + 2 * i) := by omega
    unfold far at hf
    have d1 : (j : Int) / 8 = x := by omega
    have d2 : md (j : Int) 8 = (j : Int) - 8 * x := by unfold md; omega
    rw [d1, d2] at hf
    exact hf
  obtain ⟨K, hK⟩ : ∃ K, K = md (σ (139 + 2 * i)) 8 := ⟨_, rfl⟩
  obtain ⟨A, hA⟩ : ∃ A, A = absI ((x : Int) - σ (139 + 2 * i) / 8) := ⟨_, rfl⟩
  obtain ⟨t, hT⟩ : ∃ t, t = σ (140 + 2 * i) := ⟨_, rfl⟩
  rw [← hK, ← hA, ← hT] at key
  rw [← hK, ← hA, ← hT, fitV_inI, fitV_inI]
  have ab : ∀ z : Int, absI z = z ∧ 0 ≤ z ∨ absI z = -z ∧ z < 0 := by
    intro z
    unfold absI
    split <;> omega
  by_cases e1 : t - A < 0
  · rw [if_pos e1]
    refine cnt_0 _ _ _ (fun j h1 h2 => ?_)
    cases hc : canB σ j
    · rfl
    · have := key j h1 h2 hc
      have := ab ((j : Int) - 8 * x - K)
      omega
  · rw [if_neg e1]
    by_cases e2 : t - A ≤ 0
    · rw [if_pos e2]
      refine cnt_one _ _ (fun j h1 h2 hc => ?_)
      have := key j h1 h2 hc
      have := ab ((j : Int) - 8 * x - K)
      omega
    · rw [if_neg e2]
      refine cnt_two (by omega) _ _ (fun j h1 h2 hc => ?_)
      have := key j h1 h2 hc
      have := ab ((j : Int) - 8 * x - K)
      omega
theorem sum_blk (h : WF b σ) : ∀ r k, k + r ≤ 64 → cnt (fun c => !blkB σ c) r k = r - sumI (fun c => σ (13 + c)) r k := by
  intro r
  induction r with
  | zero => intro k _; rfl
  | succ r ih =>
    intro k hk
    have hb := h.blk (c := k) (by omega)
    have e : blkB σ (k : Int) = decide (σ (13 + k) = 1) := rfl
    rw [cnt, sumI, ih (k + 1) (by omega), e]
    rcases hb with q | q
    · rw [q]; simp; omega
    · rw [q]; simp; omega
theorem x_around (h : WF b σ) (T : TR σ v) : F_X9_countFitsAround (I (σ 4)) (v.2 8) (v.2 9) (v.2 10) = some (I (canN σ)) := by
  have hq := h.q
  unfold F_X9_countFitsAround
  rw [x_first h T.a9, bnd_some]
  rcases fIx_sp (fun j => decide (0 ≤ σ (140 + 2 * j))) (σ 4).toNat 0 with ⟨g1, g2⟩ | ⟨i, -, i2, i3, i4, -⟩
  · rw [g1, brn_pos _ _ (by decide), x_blkN T.a10, bnd_some, show (64 : Int32) = I 64 from rfl, I_sub]
    have := sum_blk h 64 0 (by omega)
    congr 2
    refine Eq.trans this.symm ?_
    unfold canN
    refine cnt_cong (fun c _ _ => ?_)
    have ha : allB (agB σ c) (σ 4).toNat 0 = true := by
      rw [allB_iff]
      intro j h1 h2
      have := of_decide_eq_false (g2 j h1 h2)
      unfold agB
      rw [decide_eq_true (show σ (140 + 2 * j) < 0 by omega)]
      rfl
    unfold canB
    rw [ha, Bool.and_true]
  · have hi : (i : Int) < σ 4 := by omega
    have ht := of_decide_eq_true i3
    have hp := h.post hi
    have hm := md_in (z := σ (139 + 2 * i)) (d := 8) (by omega)
    have hro : F_X0_rowOf (I (σ (139 + 2 * i))) = some (I (σ (139 + 2 * i) / 8)) := by
      unfold F_X0_rowOf
      rw [lit_8, I_div hp.1.1 (by omega) (by omega) (by omega)]
    have hco : F_X0_columnOf (I (σ (139 + 2 * i))) = some (I (md (σ (139 + 2 * i)) 8)) := by
      unfold F_X0_columnOf
      rw [lit_8, I_div hp.1.1 (by omega) (by omega) (by omega), I_mul, I_sub]
      rfl
    rw [i4, brn_neg _ _ (by rw [m1, I_eq (by omega) (by omega) (by omega) (by omega)]; omega), x_pcell h T.a8 hi, bnd_some]
    have go : ∀ (r k f : Nat) (a : Int), k + r = 8 → r < f → a = cnt (fun c => canB σ c) (8 * k) 0 → L_X9_countFitsAround_35 (I (σ 4)) (v.2 8) (v.2 9) (v.2 10) f (I i) (I (σ (139 + 2 * i))) (I a) (I k) = some (I (canN σ)) := by
      intro r
      induction r with
      | zero =>
        intro k f a hk hf ha
        obtain ⟨f, rfl⟩ : ∃ g, f = g + 1 := ⟨f - 1, by omega⟩
        obtain rfl : k = 8 := by omega
        rw [L_X9_countFitsAround_35, brn_pos _ _ (by decide), ha]
        rfl
      | succ r ih =>
        intro k f a hk hf ha
        obtain ⟨f, rfl⟩ : ∃ g, f = g + 1 := ⟨f - 1, by omega⟩
        have rf := row_fits h hi ht (x := k) (by omega)
        have sp := cnt_split (fun c => canB σ c) 8 (8 * k) 0
        rw [Nat.zero_add, ← ha, show 8 * k + 8 = 8 * (k + 1) by omega] at sp
        have ab : absI ((k : Int) - σ (139 + 2 * i) / 8) = (k : Int) - σ (139 + 2 * i) / 8 ∧ 0 ≤ (k : Int) - σ (139 + 2 * i) / 8 ∨ absI ((k : Int) - σ (139 + 2 * i) / 8) = -((k : Int) - σ (139 + 2 * i) / 8) ∧ (k : Int) - σ (139 + 2 * i) / 8 < 0 := by
          unfold absI
          split <;> omega
        have hab : (if (0 : Int32) ≤ I k - I (σ (139 + 2 * i) / 8) then I k - I (σ (139 + 2 * i) / 8) else 0 - (I k - I (σ (139 + 2 * i) / 8))) = I (absI ((k : Int) - σ (139 + 2 * i) / 8)) := by
          unfold absI
          simp (disch := omega) only [lit_0, I_sub, I_le, I_ite]
        obtain ⟨m, hm2⟩ : ∃ m, m = σ (140 + 2 * i) - absI ((k : Int) - σ (139 + 2 * i) / 8) := ⟨_, rfl⟩
        obtain ⟨K, hK⟩ : ∃ K, K = md (σ (139 + 2 * i)) 8 := ⟨_, rfl⟩
        rw [← hm2, ← hK] at rf
        rw [← hK] at hm
        have mb : -20 < m ∧ m < 20 := by omega
        have fv : ∀ z, 0 ≤ fitV σ k z ∧ fitV σ k z ≤ 1 := by
          intro z
          unfold fitV
          split <;> omega
        have f1 := fv (K + m)
        have f2 := fv (K - m)
        have c1 := x_countFit h T (r := (k : Int)) (z := K + m) (by omega) (by omega)
        have c2 := x_countFit h T (r := (k : Int)) (z := K - m) (by omega) (by omega)
        have e0 := fun z (hz : z = cnt (fun c => canB σ c) (8 * (k + 1)) 0) => ih (k + 1) f z (by omega) (by omega) hz
        rw [show (((k + 1 : Nat) : Int)) = (k : Int) + 1 by omega] at e0
        rw [L_X9_countFitsAround_35, brn_neg _ _ (by rw [lit_8, I_le (by omega) (by omega) (by omega) (by omega)]; omega), x_told h T.a9 hi, bnd_some, hro, bnd_some, hab, I_sub, ← hm2]
        unfold J_X9_countFitsAround_86 J_X9_countFitsAround_111
        have hco2 := hco
        rw [← hK] at hco2
        simp only [hco2, bnd_some, I_add, I_sub, c1, c2]
        by_cases q1 : m < 0
        · rw [if_pos q1] at rf
          rw [brn_pos _ _ (by rw [lit_0, I_lt (by omega) (by omega) (by omega) (by omega)]; exact q1), brn_pos _ _ (by rw [lit_0, I_le (by omega) (by omega) (by omega) (by omega)]; omega)]
          simp only [lit_0, lit_1, I_add]
          exact e0 _ (by omega)
        · rw [if_neg q1] at rf
          rw [brn_neg _ _ (by rw [lit_0, I_lt (by omega) (by omega) (by omega) (by omega)]; exact q1)]
          by_cases q2 : m ≤ 0
          · rw [if_pos q2] at rf
            rw [brn_pos _ _ (by rw [lit_0, I_le (by omega) (by omega) (by omega) (by omega)]; exact q2)]
            simp only [lit_0, lit_1, I_add]
            exact e0 _ (by omega)
          · rw [if_neg q2] at rf
            rw [brn_neg _ _ (by rw [lit_0, I_le (by omega) (by omega) (by omega) (by omega)]; exact q2)]
            simp only [lit_0, lit_1, I_add]
            exact e0 _ (by omega)
    have := go 8 0 100 0 (by omega) (by omega) rfl
    rw [lit_0]
    exact this
theorem q_fitting (h : WF b σ) (T : TR σ v) (a : Int32) (t : Int32) : QOK [(0, 0), (4, 1)] (F_X11_fitting a (v.1 2) (v.1 8) (v.2 8) (v.2 9) (v.2 10)) (F_X12_fitting a (J σ) t) := by
  obtain ⟨a, ha, rfl⟩ := I_ex a
  have hl := h.look
  have c8 : (8 : Int32).toNatClampNeg = 8 := by decide
  rw [T.1.2.2.1, T.1.2.2.2.2.2.2.2.2]
  unfold F_X11_fitting F_X12_fitting J_X12_fitting_16 F_X9_hasPrank
  rw [grd_pos _ (by decide), c8, J_at, x_canN h T.a8 T.a9 T.a10, x_around h T, m_canBeMany h]
  by_cases e1 : σ 8 = 0
  · refine QOK_th 4 1 (by decide) (by decide) (v := 0) (v2 := 0) ?_ ?_
    · rw [brn_pos _ _ (by rw [e1]; rfl), bnd_some, show F_X11_demandFound 0 = some 4 from x_dFf, bnd_some, brn_neg _ _ (by decide)]
    · rw [brn_pos _ _ (by rw [e1]; rfl), brn_neg _ _ (by decide)]
      rfl
  · refine QOK_ok (canN σ) (by decide) ?_ ?_
    · rw [brn_neg _ _ (by rw [m1, I_eq (by omega) (by omega) (by omega) (by omega)]; omega), bnd_some, show F_X11_demandFound 1 = some 0 from x_dFt, bnd_some, brn_pos _ _ rfl]
      unfold brn
      split <;> rfl
    · rw [brn_neg _ _ (by rw [lit_0, I_eq (by omega) (by omega) (by omega) (by omega)]; exact e1), brn_pos _ _ (by decide)]
      rfl
end FIT
theorem op_fitting {b : Int} {x : XVal} {y : MVal} (hR : Rel b x y) (p1 : Int32) : OPK [(0, 0), (4, 1)] b (G_fitting p1 x) (H_fitting p1 y) := by
  obtain ⟨σ, π, n, e, ⟨hw, hs, T⟩, -⟩ := id hR
  have := q_fitting hw T p1 (y.1 2)
  rw [← hs] at this
  exact OPK_q hR this
