/-! ===== the round as a row of houses, and the class's round ===== -/
def rd_M (C : Nat → Int) (m : Nat) (p : Int × (Nat → Int) × Int) (R : Int) : Int × (Nat → Int) × Int := (R, U p.2.1 m p.1, p.2.2 + (if R < 0 then 0 else C R.toNat))
def rd_Q (C : Nat → Nat → Int) (n : Int) (m : Nat) (p : Int × (Nat → Int) × Int) : Int × (Nat → Int) × Int := rd_M (C p.1.toNat) m p (nrF (C p.1.toNat) (vs (U p.2.1 m p.1) (m + 1)) n.toNat 0 (-1))
def rd_P (C : Nat → Nat → Int) (n : Int) : Nat → Int × (Nat → Int) × Int
  | 0 => (if 0 < n then 0 else -1, fun _ => 0, 0)
  | m + 1 => rd_Q C n m (rd_P C n m)
theorem vs_cong {S T : Nat → Int} {m : Nat} (h : ∀ i, i < m → S i = T i) (k : Nat) : vs S m k = vs T m k := by
  unfold vs
  rw [fIx_cong (p := fun i => decide (S i = (k : Int))) (q := fun i => decide (T i = (k : Int))) (fun i _ h2 => by show decide (S i = (k : Int)) = decide (T i = (k : Int)); rw [h i (by omega)])]
theorem vs_S (S : Nat → Int) (m h : Nat) : vs S (m + 1) h = (vs S m h || decide (S m = (h : Int))) := by
  cases e : (vs S m h || decide (S m = (h : Int))) with
  | false =>
    rw [Bool.or_eq_false_iff] at e
    have e2 := of_decide_eq_false e.2
    refine (vs_f _ _ _).mpr (fun i hi => ?_)
    by_cases q : i = m
    · rw [q]; exact e2
    · exact (vs_f S m h).mp e.1 i (by omega)
  | true =>
    refine Classical.byContradiction (fun q => ?_)
    have q : vs S (m + 1) h = false := by simpa using q
    have g1 := (vs_f _ _ _).mp q
    have a : vs S m h = false := (vs_f _ _ _).mpr (fun i hi => g1 i (by omega))
    rw [a, decide_eq_false (g1 m (by omega))] at e
    cases e
theorem rd_ex (C : Nat → Nat → Int) (n : Int) : ∃ (G A : Nat → Int), (G 0 = if 0 < n then 0 else -1) ∧ A 0 = 0 ∧ ∀ m, G (m + 1) = nrF (C (G m).toNat) (vs G (m + 1)) n.toNat 0 (-1) ∧ A (m + 1) = A m + (if G (m + 1) < 0 then 0 else C (G m).toNat (G (m + 1)).toNat) := by
  obtain ⟨P, hP⟩ : ∃ P : Nat → Int × (Nat → Int) × Int, P = rd_P C n := ⟨_, rfl⟩
  have p0 : P 0 = (if 0 < n then 0 else -1, fun _ => 0, 0) := by rw [hP, rd_P]
  have ps : ∀ m, P (m + 1) = rd_Q C n m (P m) := fun m => by rw [hP, rd_P]
  have hS : ∀ m i, i < m → (P m).2.1 i = (P i).1 := by
    intro m
    induction m with
    | zero => intro i hi; omega
    | succ m ih =>
      intro i hi
      rw [ps m]
      unfold rd_Q rd_M
      show U (P m).2.1 m (P m).1 i = _
      by_cases e : i = m
      · rw [e, U_same]
      · rw [U_ne _ _ e]
        exact ih i (by omega)
  refine ⟨fun m => (P m).1, fun m => (P m).2.2, ?_, ?_, fun m => ?_⟩
  · show (P 0).1 = _
    rw [p0]
  · show (P 0).2.2 = 0
    rw [p0]
  · have ev : vs (U (P m).2.1 m (P m).1) (m + 1) = vs (fun m => (P m).1) (m + 1) := funext (fun k => vs_cong (fun i hi => by
      show U (P m).2.1 m (P m).1 i = (P i).1
      by_cases e : i = m
      · rw [e, U_same]
      · rw [U_ne _ _ e]
        exact hS m i (by omega)) k)
    have e1 : (P (m + 1)).1 = nrF (C (P m).1.toNat) (vs (fun m => (P m).1) (m + 1)) n.toNat 0 (-1) := by
      rw [ps m, ← ev]
      unfold rd_Q rd_M
      rfl
    refine ⟨e1, ?_⟩
    show (P (m + 1)).2.2 = (P m).2.2 + (if (P (m + 1)).1 < 0 then 0 else C (P m).1.toNat (P (m + 1)).1.toNat)
    rw [e1, ← ev, ps m]
    unfold rd_Q rd_M
    rfl
/-- the row of the round: the houses gone to, and the steps so far -/
def RD (C : Nat → Nat → Int) (n : Int) (G A : Nat → Int) (N : Nat) : Prop := (G 0 = if 0 < n then 0 else -1) ∧ A 0 = 0 ∧ (∀ m, G (m + 1) = nrF (C (G m).toNat) (vs G (m + 1)) n.toNat 0 (-1) ∧ A (m + 1) = A m + (if G (m + 1) < 0 then 0 else C (G m).toNat (G (m + 1)).toNat)) ∧ N ≤ 10 ∧ G N = -1 ∧ (∀ i, i < N → 0 ≤ G i ∧ G i < n) ∧ (∀ k, -1 ≤ G k ∧ G k ≤ 9)
theorem rd_N (C : Nat → Nat → Int) {n : Int} (h0 : 0 ≤ n) (h1 : n ≤ 10) : ∃ G A N, RD C n G A N := by
  obtain ⟨G, A, g0, a0, gs⟩ := rd_ex C n
  have gi : ∀ m, G m = -1 ∨ (0 ≤ G m ∧ G m < n ∧ vs G m (G m).toNat = false) := by
    intro m
    cases m with
    | zero =>
      rw [g0]
      by_cases e : 0 < n
      · rw [if_pos e]; exact Or.inr ⟨by omega, e, rfl⟩
      · rw [if_neg e]; exact Or.inl rfl
    | succ m =>
      have q := nrF_in (C := C (G m).toNat) (V := vs G (m + 1)) (n := n) n.toNat 0 (-1) (by omega) (Or.inl rfl)
      rw [← (gs m).1] at q
      rcases q with q | q
      · exact Or.inl q
      · exact Or.inr ⟨q.1, q.2.1, q.2.2.1⟩
  have go : ∀ r m : Nat, m + r = 11 → (∀ i, i < m → 0 ≤ G i ∧ G i < n) → ∃ N, N ≤ 10 ∧ G N = -1 ∧ (∀ i, i < N → 0 ≤ G i ∧ G i < n) := by
    intro r
    induction r with
    | zero =>
      intro m hm hg
      have := fb_holes 10 m (fun i => (G i).toNat) (fun i hi => by have := hg i hi; show (G i).toNat < 10; omega) (fun i j h3 h4 => by
        have a1 := hg i (by omega)
        have a2 := hg j h4
        rcases gi j with q | ⟨q1, q2, q3⟩
        · omega
        · have a3 := (vs_f G j (G j).toNat).mp q3 i h3
          show (G i).toNat ≠ (G j).toNat
          omega)
      omega
    | succ r ih =>
      intro m hm hg
      rcases gi m with q | ⟨q1, q2, q3⟩
      · exact ⟨m, by omega, q, hg⟩
      · exact ih (m + 1) (by omega) (fun i hi => by
          by_cases e : i = m
          · rw [e]; exact ⟨q1, q2⟩
          · exact hg i (by omega))
  obtain ⟨N, n1, n2, n3⟩ := go 11 0 (by omega) (fun i hi => by omega)
  exact ⟨G, A, N, g0, a0, gs, n1, n2, n3, fun k => by rcases gi k with q | q <;> omega⟩
/-- the steps from house to house -/
def cH (σ : Nat → Int) (DD : Nat → Nat → Int) (i : Nat) : Nat → Int := cD σ (DD (σ (77 + 5 * i)).toNat)
theorem DD_ex {b : Int} {σ : Nat → Int} {v : TVal} (h : WF b σ) (T : TR σ v) : ∃ DD : Nat → Nat → Int, ∀ c : Nat, c < 64 → WY (fun c => blkB σ c) c (DD c) := by
  have ex : ∀ c : Nat, c < 64 → ∃ D, WY (fun c => blkB σ c) c D := fun c hc => by
    obtain ⟨st2, q2, D, u1, u2, hW⟩ := x_measure h T.a10 hc (fun _ => 0) (fun _ => 0)
    exact ⟨D, hW⟩
  refine ⟨fun c => if hc : c < 64 then Classical.choose (ex c hc) else fun _ => 0, fun c hc => ?_⟩
  show WY (fun c => blkB σ c) c (if hc : c < 64 then Classical.choose (ex c hc) else fun _ => 0)
  rw [dif_pos hc]
  exact Classical.choose_spec (ex c hc)
section GOR
variable {b : Int} {σ G A : Nat → Int} {v : TVal} {DD : Nat → Nat → Int} {N : Nat}
theorem x_gor (h : WF b σ) (T : TR σ v) (hDD : ∀ c : Nat, c < 64 → WY (fun c => blkB σ c) c (DD c)) (hRD : RD (cH σ DD) (σ 2) G A N) : ∀ (r m f : Nat) (st q stops : Nat → Int32), m + r = N → r < f → AR stops G m →
    ∃ st2 q2 stops2, L_X10_goRound_29 (I (σ 2)) (v.2 0) (v.2 10) f (I (G m)) (I m) (I m) (I (A m)) st q stops = some (I N, I (A N), st2, q2, stops2) ∧ AR stops2 G N := by
  have hn := h.n
  obtain ⟨-, -, gs, n1, n2, n3, n4⟩ := hRD
  intro r
  induction r with
  | zero =>
    intro m f st q stops hm hf ha
    obtain ⟨f, rfl⟩ : ∃ g, f = g + 1 := ⟨f - 1, by omega⟩
    have hm : m = N := by omega
    subst hm
    refine ⟨st, q, stops, ?_, ha⟩
    rw [L_X10_goRound_29, n2]
    by_cases e : (10 : Int32) ≤ I (m : Int)
    · rw [brn_pos _ _ e]
    · rw [brn_neg _ _ e, brn_pos _ _ (by rw [m1])]
  | succ r ih =>
    intro m f st q stops hm hf ha
    obtain ⟨f, rfl⟩ : ∃ g, f = g + 1 := ⟨f - 1, by omega⟩
    have gm := n3 m (by omega)
    obtain ⟨p, ep⟩ := Int.eq_ofNat_of_zero_le gm.1
    rw [ep] at gm
    have hc := h.house (i := p) (by omega)
    obtain ⟨c, ec⟩ := Int.eq_ofNat_of_zero_le hc.1.1
    have c64 : c < 64 := by omega
    obtain ⟨st5, q5, D, u1, u2, hW⟩ := x_measure h T.a10 c64 st q
    have hWD := hDD c c64
    have hD : ∀ d : Nat, d < 64 → -1 ≤ DD c d ∧ DD c d ≤ 63 := fun d hd => ⟨hWD.2.1 d hd, WY_63 c64 hWD hd⟩
    have u3 : AR st5 (DD c) 64 := fun i hi => by rw [u2 i hi, WY_eq hW hWD (show i < 64 by omega)]
    have gR := (gs m).1
    have aR := (gs m).2
    unfold cH at gR aR
    rw [ep, Int.toNat_natCast, ec, Int.toNat_natCast] at gR aR
    have AS : AR (upd stops m (I p)) G ((m + 1 : Nat) : Int) := by
      intro i hi
      unfold upd
      by_cases e : i = m
      · rw [if_pos e, e, ep]
      · rw [if_neg e]
        exact ha i (by omega)
    obtain ⟨R, hR⟩ : ∃ R, R = G (m + 1) := ⟨_, rfl⟩
    have RI := n4 (m + 1)
    rw [← hR] at gR aR RI
    have xn := x_near h T u3 hD AS (show m + 1 ≤ 10 by omega) (fun k => by have := n4 k; omega) (σ 2).toNat 0 100 (-1) (-1) R (by omega) (by omega) (Or.inl rfl) (by rw [if_pos (by omega)]) gR
    have nI := nrF_in (C := cD σ (DD c)) (V := vs G (m + 1)) (n := σ 2) (σ 2).toNat 0 (-1) (by omega) (Or.inl rfl)
    rw [← gR] at nI
    have kk : I (m : Int) + 1 = I ((m + 1 : Nat) : Int) := by rw [lit_1, I_add]; congr 1
    obtain ⟨st2, q2, stops2, z2, z4⟩ := ih (m + 1) f st5 q5 (upd stops m (I p)) (by omega) (by omega) AS
    rw [← hR] at z2
    refine ⟨st2, q2, stops2, ?_, z4⟩
    rw [L_X10_goRound_29, ep, brn_neg _ _ (by rw [show (10 : Int32) = I 10 from rfl, I_le (by omega) (by omega) (by omega) (by omega)]; omega), brn_neg _ _ (by rw [m1, I_eq (by omega) (by omega) (by omega) (by omega)]; omega), x_put (N := 10) (by decide) (i := m) (by omega), bnd_some, x_hcell h T.a0 (i := p) (by omega), bnd_some, ec, u1, bnd_some, kk]
    have xn2 : F_X10_nearest (I ((m + 1 : Nat) : Int)) st5 (upd stops m (I p)) (I (σ 2)) (v.2 0) = some (I R) := by
      unfold F_X10_nearest
      rw [m1]
      exact xn
    dsimp only
    rw [xn2, bnd_some]
    unfold J_X10_goRound_110
    rw [kk]
    rcases nI with e | ⟨e1, e2, e3, e4⟩
    · rw [brn_pos _ _ (by rw [e, m1]), show I (A m) + 0 = I (A m) by rw [lit_0, I_add, Int.add_zero]]
      rw [aR, if_pos (by omega), Int.add_zero] at z2
      exact z2
    · obtain ⟨i, ei⟩ := Int.eq_ofNat_of_zero_le e1
      have hc2 := h.house (i := i) (by omega)
      obtain ⟨d, ed⟩ := Int.eq_ofNat_of_zero_le hc2.1.1
      have eD : cD σ (DD c) i = DD c d := by unfold cD; rw [ed]; rfl
      rw [aR, if_neg (by omega), ei, Int.toNat_natCast, eD] at z2
      rw [brn_neg _ _ (by rw [m1, I_eq (by omega) (by omega) (by omega) (by omega)]; omega), ei, x_hcell h T.a0 (i := i) (by omega), bnd_some, ed, x_at64 u3 (i := d) (by omega) (by omega), bnd_some, I_add]
      exact z2
theorem x_goR (h : WF b σ) (T : TR σ v) (hDD : ∀ c : Nat, c < 64 → WY (fun c => blkB σ c) c (DD c)) (hRD : RD (cH σ DD) (σ 2) G A N) (sc ss : Int32) (st q stops : Nat → Int32) : ∃ st2 q2 stops2, F_X10_goRound (I (σ 2)) (v.2 0) (v.2 10) sc ss st q stops = some (I N, I (A N), st2, q2, stops2) ∧ AR stops2 G N := by
  have hn := h.n
  obtain ⟨st2, q2, stops2, z, z4⟩ := x_gor h T hDD hRD N 0 100 st q stops (by omega) (by have := hRD.2.2.2.1; omega) (fun i hi => by omega)
  refine ⟨st2, q2, stops2, ?_, z4⟩
  rw [hRD.1, hRD.2.1] at z
  unfold F_X10_goRound J_X10_goRound_26
  by_cases e : σ 2 ≤ 0
  · rw [if_neg (by omega)] at z
    rw [show F_X2_has 0 (I (σ 2)) = some (I 0) from x_has_n (a := 0) (by omega) (by omega) (by omega), bnd_some, brn_pos _ _ (by first | rfl | decide), m1]
    exact z
  · rw [if_pos (by omega)] at z
    rw [show F_X2_has 0 (I (σ 2)) = some (I 1) from x_has_p (a := 0) (by omega) (by omega) (by omega), bnd_some, brn_neg _ _ (by decide)]
    exact z
end GOR
section OSR
variable {b : Int} {σ π G A : Nat → Int} {n e : Nat} {x : XVal} {y : MVal} {DD : Nat → Nat → Int} {N : Nat}
theorem os_stepsV (hR : St b σ π n e x y) (hDD : ∀ c : Nat, c < 64 → WY (fun c => blkB σ c) c (DD c)) (hRD : RD (cH σ DD) (σ 2) G A N) : ∃ x2 y2, G_steps x = some (0, I (A N), x2) ∧ St b σ π n e x2 y2 := by
  obtain ⟨⟨hw, hs, T⟩, hK, hPP, hQ, hO, hS⟩ := hR
  have h7 : x.1 7 = I (σ 2) := T.1.2.2.2.2.2.2.1
  obtain ⟨st2, q2, stops2, z2, z4⟩ := x_goR hw T hDD hRD (x.1 36) (x.1 37) (x.2.1 39) (x.2.1 40) (x.2.1 42)
  unfold G_steps F_X11_steps F_X10_roundSteps
  rw [h7, show F_X10_goRound (I (σ 2)) (x.2.1 0) (x.2.1 10) (x.1 36) (x.1 37) (x.2.1 39) (x.2.1 40) (x.2.1 42) = _ from z2, bnd_some, bnd_some, bnd_some]
  exact ⟨_, y, rfl, ⟨⟨hw, hs, T⟩, hK, hPP, hQ, hO, hS⟩⟩
theorem os_roundP (hR : St b σ π n e x y) (hDD : ∀ c : Nat, c < 64 → WY (fun c => blkB σ c) c (DD c)) (hRD : RD (cH σ DD) (σ 2) G A N) {i : Nat} (hi : i < N) : ∃ x2 y2, F_L_round (I i) x = some (I (G i), x2) ∧ St b σ π n e x2 y2 := by
  obtain ⟨⟨hw, hs, T⟩, hK, hPP, hQ, hO, hS⟩ := hR
  have h7 : x.1 7 = I (σ 2) := T.1.2.2.2.2.2.2.1
  obtain ⟨st2, q2, stops2, z2, z4⟩ := x_goR hw T hDD hRD (x.1 36) (x.1 37) (x.2.1 39) (x.2.1 40) (x.2.1 42)
  obtain ⟨-, -, gs, n1, n2, n3, n4⟩ := hRD
  have gi := n3 i hi
  have g9 := n4 i
  have hG : F_X11_round (I (i : Int)) (I (σ 2)) (x.2.1 0) (x.2.1 10) (x.1 36) (x.1 37) (x.2.1 39) (x.2.1 40) (x.2.1 42) = some (0, I (G i), I N, I (A N), st2, q2, stops2) := by
    unfold F_X11_round F_X10_stopAt J_X11_round_30
    rw [show F_X10_goRound (I (σ 2)) (x.2.1 0) (x.2.1 10) (x.1 36) (x.1 37) (x.2.1 39) (x.2.1 40) (x.2.1 42) = _ from z2, bnd_some]
    dsimp only
    rw [brn_neg _ _ (by rw [I_le (by omega) (by omega) (by omega) (by omega)]; omega), x_at10 z4 (i := i) (by omega) (by omega), bnd_some, bnd_some, brn_neg _ _ (by rw [m1, I_eq (by omega) (by omega) (by omega) (by omega)]; omega), show F_X11_demandFound 1 = some 0 from x_dFt, bnd_some, brn_pos _ _ rfl]
  unfold F_L_round G_round
  rw [h7, hG, bnd_some, bnd_some]
  exact ⟨_, y, rfl, ⟨⟨hw, hs, T⟩, hK, hPP, hQ, hO, hS⟩⟩
theorem os_roundN (hR : St b σ π n e x y) (hDD : ∀ c : Nat, c < 64 → WY (fun c => blkB σ c) c (DD c)) (hRD : RD (cH σ DD) (σ 2) G A N) : ∃ x2 y2, F_L_round (I N) x = some ((-13 : Int32), x2) ∧ St b σ π n e x2 y2 := by
  obtain ⟨⟨hw, hs, T⟩, hK, hPP, hQ, hO, hS⟩ := hR
  have h7 : x.1 7 = I (σ 2) := T.1.2.2.2.2.2.2.1
  obtain ⟨st2, q2, stops2, z2, z4⟩ := x_goR hw T hDD hRD (x.1 36) (x.1 37) (x.2.1 39) (x.2.1 40) (x.2.1 42)
  obtain ⟨-, -, gs, n1, n2, n3, n4⟩ := hRD
  have hG : F_X11_round (I (N : Int)) (I (σ 2)) (x.2.1 0) (x.2.1 10) (x.1 36) (x.1 37) (x.2.1 39) (x.2.1 40) (x.2.1 42) = some (4, 0, I N, I (A N), st2, q2, stops2) := by
    have g : F_X10_stopAt (I (N : Int)) (I N) stops2 = some (I (-1)) := by
      unfold F_X10_stopAt
      rw [brn_pos _ _ (Int32.le_refl _), m1]
    unfold F_X11_round J_X11_round_30
    rw [show F_X10_goRound (I (σ 2)) (x.2.1 0) (x.2.1 10) (x.1 36) (x.1 37) (x.2.1 39) (x.2.1 40) (x.2.1 42) = _ from z2, bnd_some]
    dsimp only
    rw [g, bnd_some, brn_pos _ _ (by rw [m1]), show F_X11_demandFound 0 = some 4 from x_dFf, bnd_some, brn_neg _ _ (by decide)]
  unfold F_L_round G_round
  rw [h7, hG, bnd_some, bnd_some]
  exact ⟨_, y, rfl, ⟨⟨hw, hs, T⟩, hK, hPP, hQ, hO, hS⟩⟩
end OSR
