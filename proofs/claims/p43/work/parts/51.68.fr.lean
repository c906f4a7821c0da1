/-! ===== parts of a town changed, the others kept ===== -/
theorem U_r {f : Nat → Int} {k : Nat} {v : Int} (hf : ∀ j, InR (f j)) (hv : InR v) (j : Nat) : InR (U f k v j) := by
  unfold U
  split
  · exact hv
  · exact hf j
theorem CP_r {f g : Nat → Int} {a c n : Nat} (hf : ∀ j, InR (f j)) (hg : ∀ j, InR (g j)) (j : Nat) : InR (CP f g a c n j) := by
  unfold CP
  split
  · exact hf _
  · exact hg _
theorem AR_app {a : Nat → Int32} {f g : Nat → Int} {n v : Int} (h : AR a f n) (h0 : 0 ≤ n) (hg : ∀ i : Nat, (i : Int) < n → g i = f i) (hv : g n.toNat = v) : AR (upd a n.toNat (I v)) g (n + 1) := by
  intro i hi
  unfold upd
  by_cases e : i = n.toNat
  · rw [if_pos e, e, hv]
  · rw [if_neg e, hg i (by omega)]
    exact h i (by omega)
theorem AR_gap {a a2 : Nat → Int32} {f g : Nat → Int} {n p : Int} {N : Nat} (h : AR a f n) (h0 : 0 ≤ p) (hp : p < n) (hn : n ≤ N) (ha : ∀ i : Nat, a2 i = if p ≤ i ∧ i + 1 < N then a (i + 1) else a i) (hg : ∀ i : Nat, (i : Int) < n - 1 → g i = if (i : Int) < p then f i else f (i + 1)) : AR a2 g (n - 1) := by
  intro i hi
  rw [ha i, hg i hi]
  by_cases e : (i : Int) < p
  · rw [if_neg (by omega), if_pos e]
    exact h i (by omega)
  · rw [if_pos (by omega), if_neg e]
    exact h (i + 1) (by omega)
theorem AR_put {a : Nat → Int32} {f g : Nat → Int} {n v : Int} {k : Nat} (h : AR a f n) (hg : ∀ i : Nat, (i : Int) < n → g i = if i = k then v else f i) : AR (upd a k (I v)) g n := by
  intro i hi
  unfold upd
  rw [hg i hi]
  by_cases e : i = k
  · rw [if_pos e, if_pos e]
  · rw [if_neg e, if_neg e]
    exact h i hi
section FRM
variable {b c : Int} {σ τ : Nat → Int} {v w : TVal}
/-- the houses alone have changed -/
theorem WF_house (h : WF b σ) (hr : ∀ k, InR (τ k)) (he : ∀ k : Nat, k < 147 → k ≠ 2 → ¬ (77 ≤ k ∧ k < 127) → τ k = σ k) (hn : 0 ≤ τ 2 ∧ τ 2 ≤ 10)
    (hh : ∀ i : Nat, (i : Int) < τ 2 → (0 ≤ τ (77 + 5 * i) ∧ τ (77 + 5 * i) ≤ 63) ∧ (0 ≤ τ (78 + 5 * i) ∧ τ (78 + 5 * i) ≤ 23) ∧ (0 ≤ τ (79 + 5 * i) ∧ τ (79 + 5 * i) ≤ 23) ∧ (0 ≤ τ (80 + 5 * i) ∧ τ (80 + 5 * i) ≤ b) ∧ (0 ≤ τ (81 + 5 * i) ∧ τ (81 + 5 * i) ≤ b))
    (ho : ∀ i j : Nat, (i : Int) < τ 2 → (j : Int) < τ 2 → τ (77 + 5 * i) = τ (77 + 5 * j) → i = j) : WF b τ := by
  have hm := h.m
  have hq := h.q
  have e : ∀ k : Nat, k < 147 → k ≠ 2 → ¬ (77 ≤ k ∧ k < 127) → τ k = σ k := he
  refine ⟨hr, ?_, hn, ?_, ?_, ?_, ?_, ?_, ⟨hh, ho⟩, ⟨?_, ?_⟩, ⟨?_, ?_⟩⟩
  · rw [e 0 (by omega) (by omega) (by omega)]; exact h.hour
  · rw [e 3 (by omega) (by omega) (by omega)]; exact h.m
  · rw [e 4 (by omega) (by omega) (by omega)]; exact h.q
  · rw [e 8 (by omega) (by omega) (by omega)]; exact h.look
  · rw [e 1 (by omega) (by omega) (by omega), e 5 (by omega) (by omega) (by omega), e 6 (by omega) (by omega) (by omega), e 7 (by omega) (by omega) (by omega), e 9 (by omega) (by omega) (by omega), e 10 (by omega) (by omega) (by omega), e 11 (by omega) (by omega) (by omega), e 12 (by omega) (by omega) (by omega)]
    refine ⟨h.sums.1, h.sums.2.1, h.sums.2.2.1, h.sums.2.2.2.1, fun k hk => ?_, h.sums.2.2.2.2.2⟩
    rw [e (9 + k) (by omega) (by omega) (by omega)]
    exact h.sums.2.2.2.2.1 k hk
  · intro c hc
    rw [e (13 + c) (by omega) (by omega) (by omega)]
    exact h.blk hc
  · intro i hi
    rw [e 3 (by omega) (by omega) (by omega)] at hi
    rw [e (127 + 3 * i) (by omega) (by omega) (by omega), e (128 + 3 * i) (by omega) (by omega) (by omega), e (129 + 3 * i) (by omega) (by omega) (by omega)]
    exact h.hall hi
  · intro i j hi hj n g
    rw [e 3 (by omega) (by omega) (by omega)] at hi hj
    rw [e (127 + 3 * i) (by omega) (by omega) (by omega), e (127 + 3 * j) (by omega) (by omega) (by omega)] at g
    rw [e (128 + 3 * i) (by omega) (by omega) (by omega), e (129 + 3 * i) (by omega) (by omega) (by omega), e (128 + 3 * j) (by omega) (by omega) (by omega), e (129 + 3 * j) (by omega) (by omega) (by omega)]
    exact h.apart hi hj n g
  · intro i hi
    rw [e 4 (by omega) (by omega) (by omega)] at hi
    rw [e (139 + 2 * i) (by omega) (by omega) (by omega), e (140 + 2 * i) (by omega) (by omega) (by omega)]
    exact h.post hi
  · intro i j hi hj g
    rw [e 4 (by omega) (by omega) (by omega)] at hi hj
    rw [e (139 + 2 * i) (by omega) (by omega) (by omega), e (139 + 2 * j) (by omega) (by omega) (by omega)] at g
    exact h.oneP hi hj g
theorem TR_house (h : WF b σ) (T : TR σ v) (he : ∀ k : Nat, k < 147 → k ≠ 2 → ¬ (77 ≤ k ∧ k < 127) → τ k = σ k) {i6 : Int32} {r0 r1 r2 r3 r4 : Nat → Int32} (h6 : i6 = I (τ 2))
    (a0 : AR r0 (fun i => τ (77 + 5 * i)) (τ 2)) (a1 : AR r1 (fun i => τ (78 + 5 * i)) (τ 2)) (a2 : AR r2 (fun i => τ (79 + 5 * i)) (τ 2)) (a3 : AR r3 (fun i => τ (80 + 5 * i)) (τ 2)) (a4 : AR r4 (fun i => τ (81 + 5 * i)) (τ 2)) :
    TR τ (tvMk (v.1 0) (v.1 1) (v.1 2) (v.1 3) (v.1 4) (v.1 5) i6 (v.1 7) (v.1 8) r0 r1 r2 r3 r4 (v.2 5) (v.2 6) (v.2 7) (v.2 8) (v.2 9) (v.2 10) (v.2 11)) := by
  have hm := h.m
  have hq := h.q
  have T1 := T.1
  refine TR.mk ?_ ?_ ?_ ?_ ?_ ?_ h6 ?_ ?_ a0 a1 a2 a3 a4 ?_ ?_ ?_ ?_ ?_ ?_ ?_
  · rw [he 0 (by omega) (by omega) (by omega)]; exact T1.1
  · rw [he 1 (by omega) (by omega) (by omega)]; exact T1.2.1
  · rw [he 8 (by omega) (by omega) (by omega)]; exact T1.2.2.1
  · rw [he 5 (by omega) (by omega) (by omega)]; exact T1.2.2.2.1
  · rw [he 6 (by omega) (by omega) (by omega)]; exact T1.2.2.2.2.1
  · rw [he 7 (by omega) (by omega) (by omega)]; exact T1.2.2.2.2.2.1
  · rw [he 3 (by omega) (by omega) (by omega)]; exact T1.2.2.2.2.2.2.2.1
  · rw [he 4 (by omega) (by omega) (by omega)]; exact T1.2.2.2.2.2.2.2.2
  · rw [he 3 (by omega) (by omega) (by omega)]; exact AR_cong T.a5 (by omega) (fun i hi => (he _ (by omega) (by omega) (by omega)).symm)
  · rw [he 3 (by omega) (by omega) (by omega)]; exact AR_cong T.a6 (by omega) (fun i hi => (he _ (by omega) (by omega) (by omega)).symm)
  · rw [he 3 (by omega) (by omega) (by omega)]; exact AR_cong T.a7 (by omega) (fun i hi => (he _ (by omega) (by omega) (by omega)).symm)
  · rw [he 4 (by omega) (by omega) (by omega)]; exact AR_cong T.a8 (by omega) (fun i hi => (he _ (by omega) (by omega) (by omega)).symm)
  · rw [he 4 (by omega) (by omega) (by omega)]; exact AR_cong T.a9 (by omega) (fun i hi => (he _ (by omega) (by omega) (by omega)).symm)
  · exact AR_cong T.a10 (by omega) (fun i hi => (he _ (by omega) (by omega) (by omega)).symm)
  · exact AR_cong T.a11 (by omega) (fun i hi => (he _ (by omega) (by omega) (by omega)).symm)
end FRM
/-! ===== a call's answer, and what holds after it ===== -/
def OPK (cs : List (Nat × Int)) (b : Int) (G : Option (Nat × Int32 × XVal)) (H : Option (Int32 × MVal)) : Prop := ∃ k v x' v2 y' t, (k, t) ∈ cs ∧ G = some (k, v, x') ∧ H = some (v2, y') ∧ y'.1 2 = I t ∧ (k = 0 → v = v2) ∧ Rel (b + 300) x' y'
section OPS
variable {b : Int} {σ π : Nat → Int} {x : XVal} {y : MVal} {cs : List (Nat × Int)}
theorem Rel.mono {c : Int} (h : Rel b x y) (hb : b ≤ c) : Rel c x y := by
  obtain ⟨σ, π, n, e, h1, h2, h3, h4⟩ := h
  exact ⟨σ, π, n, e, h1.mono hb, h2.mono hb, h3.mono hb, h4⟩
theorem OPK_q {f : Option (Nat × Int32)} {g : Option (Int32 × Int32)} (hR : Rel b x y) (hq : QOK cs f g) : OPK cs b (bnd f (fun o => some (o.1, o.2, (x.1, x.2.1, x.2.2)))) (bnd g (fun o => some (o.1, ((fun k => if k = 2 then o.2 else y.1 k), y.2)))) := by
  obtain ⟨k, v, v2, t, h1, rfl, rfl, h2⟩ := hq
  exact ⟨k, v, _, v2, _, t, h1, rfl, rfl, rfl, h2, hR.mono (by omega)⟩
theorem op_houseOf (hR : Rel b x y) (p1 p2 : Int32) : OPK [(0, 0), (1, 1), (2, 2)] b (G_houseOf p1 p2 x) (H_houseOf p1 p2 y) := by
  obtain ⟨σ, π, n, e, ⟨hw, hs, T⟩, -⟩ := id hR
  have := q_houseOf hw T p1 p2 (y.1 2)
  rw [← hs] at this
  exact OPK_q hR this
theorem op_asleep (hR : Rel b x y) (p1 p2 : Int32) : OPK [(0, 0), (2, 1)] b (G_asleep p1 p2 x) (H_asleep p1 p2 y) := by
  obtain ⟨σ, π, n, e, ⟨hw, hs, T⟩, -⟩ := id hR
  have := q_asleep hw T p1 p2 (y.1 2)
  rw [← hs] at this
  exact OPK_q hR this
theorem op_deepest (hR : Rel b x y) : OPK [(0, 0), (4, 1)] b (G_deepest x) (H_deepest y) := by
  obtain ⟨σ, π, n, e, ⟨hw, hs, T⟩, -⟩ := id hR
  have := q_deepest hw T (y.1 2)
  rw [← hs] at this
  exact OPK_q hR this
theorem op_classOf (hR : Rel b x y) (p1 p2 p3 p4 : Int32) : OPK [(0, 0), (1, 1), (2, 2)] b (G_classOf p1 p2 p3 p4 x) (H_classOf p1 p2 p3 p4 y) := by
  obtain ⟨σ, π, n, e, ⟨hw, hs, T⟩, -⟩ := id hR
  have := q_classOf hw T p1 p2 p3 p4 (y.1 2)
  rw [← hs] at this
  exact OPK_q hR this
theorem op_echo (hR : Rel b x y) (p1 p2 p3 : Int32) : OPK [(0, 0), (1, 1), (2, 2), (4, 3)] b (G_echo p1 p2 p3 x) (H_echo p1 p2 p3 y) := by
  obtain ⟨σ, π, n, e, ⟨hw, hs, T⟩, -⟩ := id hR
  have := q_echo hw T p1 p2 p3 (y.1 2)
  rw [← hs] at this
  exact OPK_q hR this
theorem op_heard (hR : Rel b x y) (p1 p2 p3 : Int32) : OPK [(0, 0), (1, 1), (2, 2)] b (G_heard p1 p2 p3 x) (H_heard p1 p2 p3 y) := by
  obtain ⟨σ, π, n, e, ⟨hw, hs, T⟩, -⟩ := id hR
  have := q_heard hw T p1 p2 p3 (y.1 2)
  rw [← hs] at this
  exact OPK_q hR this
theorem op_rings (hR : Rel b x y) (p1 : Int32) : OPK [(0, 0), (2, 1)] b (G_rings p1 x) (H_rings p1 y) := by
  obtain ⟨σ, π, n, e, ⟨hw, hs, T⟩, -⟩ := id hR
  have := q_rings hw T p1 (y.1 2)
  rw [← hs] at this
  exact OPK_q hR this
theorem op_postOf (hR : Rel b x y) (p1 p2 : Int32) : OPK [(0, 0), (1, 1), (2, 2), (4, 3)] b (G_postOf p1 p2 x) (H_postOf p1 p2 y) := by
  obtain ⟨σ, π, n, e, ⟨hw, hs, T⟩, -⟩ := id hR
  have := q_postOf hw T p1 p2 (y.1 2)
  rw [← hs] at this
  exact OPK_q hR this
theorem op_fits (hR : Rel b x y) (p1 : Int32) : OPK [(0, 0), (2, 1), (4, 2)] b (G_fits p1 x) (H_fits p1 y) := by
  obtain ⟨σ, π, n, e, ⟨hw, hs, T⟩, -⟩ := id hR
  have := q_fits hw T p1 (y.1 2)
  rw [← hs] at this
  exact OPK_q hR this
theorem op_fix (hR : Rel b x y) (p1 : Int32) : OPK [(0, 0), (4, 1)] b (G_fix p1 x) (H_fix p1 y) := by
  obtain ⟨σ, π, n, e, ⟨hw, hs, T⟩, -⟩ := id hR
  have := q_fix hw T p1 (y.1 2)
  rw [← hs] at this
  exact OPK_q hR this
theorem op_apart (hR : Rel b x y) (p1 p2 : Int32) : OPK [(0, 0), (2, 1)] b (G_apart p1 p2 x) (H_apart p1 p2 y) := OPK_q hR (q_apart p1 p2 (y.1 2))
theorem op_account (hR : Rel b x y) (p1 : Int32) : OPK [(0, 0), (2, 1)] b (G_account p1 x) (H_account p1 y) := by
  obtain ⟨σ, π, n, e, ⟨hw, hs, T⟩, -, ⟨h28, -, hm, -⟩, -, ⟨-, no, -, h32, h9, -⟩, -⟩ := id hR
  have := q_account hw T p1 (pn := y.1 1) (on := y.1 9) (y.1 2)
  rw [← hs] at this
  unfold G_account H_account
  rw [h28, h32, ← hm, ← h9]
  exact OPK_q hR this
theorem op_refusal (hR : Rel b x y) (p1 : Int32) : OPK [(0, 0), (4, 1)] b (G_refusal p1 x) (H_refusal p1 y) := by
  obtain ⟨σ, π, n, e, -, -, -, hr, -⟩ := id hR
  exact OPK_q hR (q_refusal p1 hr (y.1 2))
end OPS
