/-! ===== what is kept of a town ===== -/
theorem WF_hall {b : Int} {σ τ : Nat → Int} (h : WF b σ) (hr : ∀ k, InR (τ k)) (he : ∀ k : Nat, k < 147 → (k ≠ 3 ∧ ¬ (127 ≤ k ∧ k < 139)) → τ k = σ k) (hm : 0 ≤ τ 3 ∧ τ 3 ≤ 4) (hhall1 : ∀ j : Nat, (j : Int) < τ 3 → (0 ≤ τ (127 + 3 * j) ∧ τ (127 + 3 * j) ≤ 7) ∧ 0 ≤ τ (128 + 3 * j) ∧ τ (128 + 3 * j) ≤ τ (129 + 3 * j) ∧ τ (129 + 3 * j) ≤ 7) (hhall2 : ∀ i j : Nat, (i : Int) < τ 3 → (j : Int) < τ 3 → i ≠ j → τ (127 + 3 * i) = τ (127 + 3 * j) → τ (129 + 3 * i) < τ (128 + 3 * j) ∨ τ (129 + 3 * j) < τ (128 + 3 * i)) : WF b τ := by
  have gn := h.n
  have gm := h.m
  have gq := h.q
  refine ⟨hr, ?_, ?_, hm, ?_, ?_, ?_, ?_, ⟨?_, ?_⟩, ⟨hhall1, hhall2⟩, ⟨?_, ?_⟩⟩
  · rw [he 0 (by omega) (by omega)]; exact h.hour
  · rw [he 2 (by omega) (by omega)]; exact h.n
  · rw [he 4 (by omega) (by omega)]; exact h.q
  · rw [he 8 (by omega) (by omega)]; exact h.look
  · rw [he 1 (by omega) (by omega), he 5 (by omega) (by omega), he 6 (by omega) (by omega), he 7 (by omega) (by omega), he 9 (by omega) (by omega), he 10 (by omega) (by omega), he 11 (by omega) (by omega), he 12 (by omega) (by omega)]
    refine ⟨h.sums.1, h.sums.2.1, h.sums.2.2.1, h.sums.2.2.2.1, fun k hk => ?_, h.sums.2.2.2.2.2⟩
    rw [he (9 + k) (by omega) (by omega)]
    exact h.sums.2.2.2.2.1 k hk
  · intro c hc
    rw [he (13 + c) (by omega) (by omega)]
    exact h.blk hc
  · intro i hi
    rw [he 2 (by omega) (by omega)] at hi
    rw [he (77 + 5 * i) (by omega) (by omega), he (78 + 5 * i) (by omega) (by omega), he (79 + 5 * i) (by omega) (by omega), he (80 + 5 * i) (by omega) (by omega), he (81 + 5 * i) (by omega) (by omega)]
    exact h.house hi
  · intro i j hi hj g
    rw [he 2 (by omega) (by omega)] at hi hj
    rw [he (77 + 5 * i) (by omega) (by omega), he (77 + 5 * j) (by omega) (by omega)] at g
    exact h.one hi hj g
  · intro i hi
    rw [he 4 (by omega) (by omega)] at hi
    rw [he (139 + 2 * i) (by omega) (by omega), he (140 + 2 * i) (by omega) (by omega)]
    exact h.post hi
  · intro i j hi hj g
    rw [he 4 (by omega) (by omega)] at hi hj
    rw [he (139 + 2 * i) (by omega) (by omega), he (139 + 2 * j) (by omega) (by omega)] at g
    exact h.oneP hi hj g
theorem TR_hall {b : Int} {σ τ : Nat → Int} {v : TVal} (h : WF b σ) (T : TR σ v) (he : ∀ k : Nat, k < 147 → (k ≠ 3 ∧ ¬ (127 ≤ k ∧ k < 139)) → τ k = σ k) {i7 : Int32} {r5 r6 r7 : Nat → Int32} (hi7 : i7 = I (τ 3)) (a5 : AR r5 (fun i => τ (127 + 3 * i)) (τ 3)) (a6 : AR r6 (fun i => τ (128 + 3 * i)) (τ 3)) (a7 : AR r7 (fun i => τ (129 + 3 * i)) (τ 3)) : TR τ (tvMk (v.1 0) (v.1 1) (v.1 2) (v.1 3) (v.1 4) (v.1 5) (v.1 6) i7 (v.1 8) (v.2 0) (v.2 1) (v.2 2) (v.2 3) (v.2 4) r5 r6 r7 (v.2 8) (v.2 9) (v.2 10) (v.2 11)) := by
  have gn := h.n
  have gm := h.m
  have gq := h.q
  have T1 := T.1
  refine TR.mk ?_ ?_ ?_ ?_ ?_ ?_ ?_ hi7 ?_ ?_ ?_ ?_ ?_ ?_ a5 a6 a7 ?_ ?_ ?_ ?_
  · rw [he 0 (by omega) (by omega)]; exact T1.1
  · rw [he 1 (by omega) (by omega)]; exact T1.2.1
  · rw [he 8 (by omega) (by omega)]; exact T1.2.2.1
  · rw [he 5 (by omega) (by omega)]; exact T1.2.2.2.1
  · rw [he 6 (by omega) (by omega)]; exact T1.2.2.2.2.1
  · rw [he 7 (by omega) (by omega)]; exact T1.2.2.2.2.2.1
  · rw [he 2 (by omega) (by omega)]; exact T1.2.2.2.2.2.2.1
  · rw [he 4 (by omega) (by omega)]; exact T1.2.2.2.2.2.2.2.2
  · rw [he 2 (by omega) (by omega)]; exact AR_cong T.a0 (by omega) (fun i hi => (he _ (by omega) (by omega)).symm)
  · rw [he 2 (by omega) (by omega)]; exact AR_cong T.a1 (by omega) (fun i hi => (he _ (by omega) (by omega)).symm)
  · rw [he 2 (by omega) (by omega)]; exact AR_cong T.a2 (by omega) (fun i hi => (he _ (by omega) (by omega)).symm)
  · rw [he 2 (by omega) (by omega)]; exact AR_cong T.a3 (by omega) (fun i hi => (he _ (by omega) (by omega)).symm)
  · rw [he 2 (by omega) (by omega)]; exact AR_cong T.a4 (by omega) (fun i hi => (he _ (by omega) (by omega)).symm)
  · rw [he 4 (by omega) (by omega)]; exact AR_cong T.a8 (by omega) (fun i hi => (he _ (by omega) (by omega)).symm)
  · rw [he 4 (by omega) (by omega)]; exact AR_cong T.a9 (by omega) (fun i hi => (he _ (by omega) (by omega)).symm)
  · exact AR_cong T.a10 (by omega) (fun i hi => (he _ (by omega) (by omega)).symm)
  · exact AR_cong T.a11 (by omega) (fun i hi => (he _ (by omega) (by omega)).symm)
theorem WF_post {b : Int} {σ τ : Nat → Int} (h : WF b σ) (hr : ∀ k, InR (τ k)) (he : ∀ k : Nat, k < 147 → (k ≠ 4 ∧ ¬ (139 ≤ k ∧ k < 147)) → τ k = σ k) (hq : 0 ≤ τ 4 ∧ τ 4 ≤ 4) (hpost1 : ∀ j : Nat, (j : Int) < τ 4 → (0 ≤ τ (139 + 2 * j) ∧ τ (139 + 2 * j) ≤ 63) ∧ -1 ≤ τ (140 + 2 * j) ∧ τ (140 + 2 * j) ≤ 14) (hpost2 : ∀ i j : Nat, (i : Int) < τ 4 → (j : Int) < τ 4 → τ (139 + 2 * i) = τ (139 + 2 * j) → i = j) : WF b τ := by
  have gn := h.n
  have gm := h.m
  have gq := h.q
  refine ⟨hr, ?_, ?_, ?_, hq, ?_, ?_, ?_, ⟨?_, ?_⟩, ⟨?_, ?_⟩, ⟨hpost1, hpost2⟩⟩
  · rw [he 0 (by omega) (by omega)]; exact h.hour
  · rw [he 2 (by omega) (by omega)]; exact h.n
  · rw [he 3 (by omega) (by omega)]; exact h.m
  · rw [he 8 (by omega) (by omega)]; exact h.look
  · rw [he 1 (by omega) (by omega), he 5 (by omega) (by omega), he 6 (by omega) (by omega), he 7 (by omega) (by omega), he 9 (by omega) (by omega), he 10 (by omega) (by omega), he 11 (by omega) (by omega), he 12 (by omega) (by omega)]
    refine ⟨h.sums.1, h.sums.2.1, h.sums.2.2.1, h.sums.2.2.2.1, fun k hk => ?_, h.sums.2.2.2.2.2⟩
    rw [he (9 + k) (by omega) (by omega)]
    exact h.sums.2.2.2.2.1 k hk
  · intro c hc
    rw [he (13 + c) (by omega) (by omega)]
    exact h.blk hc
  · intro i hi
    rw [he 2 (by omega) (by omega)] at hi
    rw [he (77 + 5 * i) (by omega) (by omega), he (78 + 5 * i) (by omega) (by omega), he (79 + 5 * i) (by omega) (by omega), he (80 + 5 * i) (by omega) (by omega), he (81 + 5 * i) (by omega) (by omega)]
    exact h.house hi
  · intro i j hi hj g
    rw [he 2 (by omega) (by omega)] at hi hj
    rw [he (77 + 5 * i) (by omega) (by omega), he (77 + 5 * j) (by omega) (by omega)] at g
    exact h.one hi hj g
  · intro i hi
    rw [he 3 (by omega) (by omega)] at hi
    rw [he (127 + 3 * i) (by omega) (by omega), he (128 + 3 * i) (by omega) (by omega), he (129 + 3 * i) (by omega) (by omega)]
    exact h.hall hi
  · intro i j hi hj n g
    rw [he 3 (by omega) (by omega)] at hi hj
    rw [he (127 + 3 * i) (by omega) (by omega), he (127 + 3 * j) (by omega) (by omega)] at g
    rw [he (128 + 3 * i) (by omega) (by omega), he (129 + 3 * i) (by omega) (by omega), he (128 + 3 * j) (by omega) (by omega), he (129 + 3 * j) (by omega) (by omega)]
    exact h.apart hi hj n g
theorem TR_post {b : Int} {σ τ : Nat → Int} {v : TVal} (h : WF b σ) (T : TR σ v) (he : ∀ k : Nat, k < 147 → (k ≠ 4 ∧ ¬ (139 ≤ k ∧ k < 147)) → τ k = σ k) {i8 : Int32} {r8 r9 : Nat → Int32} (hi8 : i8 = I (τ 4)) (a8 : AR r8 (fun i => τ (139 + 2 * i)) (τ 4)) (a9 : AR r9 (fun i => τ (140 + 2 * i)) (τ 4)) : TR τ (tvMk (v.1 0) (v.1 1) (v.1 2) (v.1 3) (v.1 4) (v.1 5) (v.1 6) (v.1 7) i8 (v.2 0) (v.2 1) (v.2 2) (v.2 3) (v.2 4) (v.2 5) (v.2 6) (v.2 7) r8 r9 (v.2 10) (v.2 11)) := by
  have gn := h.n
  have gm := h.m
  have gq := h.q
  have T1 := T.1
  refine TR.mk ?_ ?_ ?_ ?_ ?_ ?_ ?_ ?_ hi8 ?_ ?_ ?_ ?_ ?_ ?_ ?_ ?_ a8 a9 ?_ ?_
  · rw [he 0 (by omega) (by omega)]; exact T1.1
  · rw [he 1 (by omega) (by omega)]; exact T1.2.1
  · rw [he 8 (by omega) (by omega)]; exact T1.2.2.1
  · rw [he 5 (by omega) (by omega)]; exact T1.2.2.2.1
  · rw [he 6 (by omega) (by omega)]; exact T1.2.2.2.2.1
  · rw [he 7 (by omega) (by omega)]; exact T1.2.2.2.2.2.1
  · rw [he 2 (by omega) (by omega)]; exact T1.2.2.2.2.2.2.1
  · rw [he 3 (by omega) (by omega)]; exact T1.2.2.2.2.2.2.2.1
  · rw [he 2 (by omega) (by omega)]; exact AR_cong T.a0 (by omega) (fun i hi => (he _ (by omega) (by omega)).symm)
  · rw [he 2 (by omega) (by omega)]; exact AR_cong T.a1 (by omega) (fun i hi => (he _ (by omega) (by omega)).symm)
  · rw [he 2 (by omega) (by omega)]; exact AR_cong T.a2 (by omega) (fun i hi => (he _ (by omega) (by omega)).symm)
  · rw [he 2 (by omega) (by omega)]; exact AR_cong T.a3 (by omega) (fun i hi => (he _ (by omega) (by omega)).symm)
  · rw [he 2 (by omega) (by omega)]; exact AR_cong T.a4 (by omega) (fun i hi => (he _ (by omega) (by omega)).symm)
  · rw [he 3 (by omega) (by omega)]; exact AR_cong T.a5 (by omega) (fun i hi => (he _ (by omega) (by omega)).symm)
  · rw [he 3 (by omega) (by omega)]; exact AR_cong T.a6 (by omega) (fun i hi => (he _ (by omega) (by omega)).symm)
  · rw [he 3 (by omega) (by omega)]; exact AR_cong T.a7 (by omega) (fun i hi => (he _ (by omega) (by omega)).symm)
  · exact AR_cong T.a10 (by omega) (fun i hi => (he _ (by omega) (by omega)).symm)
  · exact AR_cong T.a11 (by omega) (fun i hi => (he _ (by omega) (by omega)).symm)
theorem WF_blk {b : Int} {σ τ : Nat → Int} (h : WF b σ) (hr : ∀ k, InR (τ k)) (he : ∀ k : Nat, k < 147 → (¬ (13 ≤ k ∧ k < 77)) → τ k = σ k) (hblk : ∀ c : Nat, c < 64 → τ (13 + c) = 0 ∨ τ (13 + c) = 1) : WF b τ := by
  have gn := h.n
  have gm := h.m
  have gq := h.q
  refine ⟨hr, ?_, ?_, ?_, ?_, ?_, ?_, hblk, ⟨?_, ?_⟩, ⟨?_, ?_⟩, ⟨?_, ?_⟩⟩
  · rw [he 0 (by omega) (by omega)]; exact h.hour
  · rw [he 2 (by omega) (by omega)]; exact h.n
  · rw [he 3 (by omega) (by omega)]; exact h.m
  · rw [he 4 (by omega) (by omega)]; exact h.q
  · rw [he 8 (by omega) (by omega)]; exact h.look
  · rw [he 1 (by omega) (by omega), he 5 (by omega) (by omega), he 6 (by omega) (by omega), he 7 (by omega) (by omega), he 9 (by omega) (by omega), he 10 (by omega) (by omega), he 11 (by omega) (by omega), he 12 (by omega) (by omega)]
    refine ⟨h.sums.1, h.sums.2.1, h.sums.2.2.1, h.sums.2.2.2.1, fun k hk => ?_, h.sums.2.2.2.2.2⟩
    rw [he (9 + k) (by omega) (by omega)]
    exact h.sums.2.2.2.2.1 k hk
  · intro i hi
    rw [he 2 (by omega) (by omega)] at hi
    rw [he (77 + 5 * i) (by omega) (by omega), he (78 + 5 * i) (by omega) (by omega), he (79 + 5 * i) (by omega) (by omega), he (80 + 5 * i) (by omega) (by omega), he (81 + 5 * i) (by omega) (by omega)]
    exact h.house hi
  · intro i j hi hj g
    rw [he 2 (by omega) (by omega)] at hi hj
    rw [he (77 + 5 * i) (by omega) (by omega), he (77 + 5 * j) (by omega) (by omega)] at g
    exact h.one hi hj g
  · intro i hi
    rw [he 3 (by omega) (by omega)] at hi
    rw [he (127 + 3 * i) (by omega) (by omega), he (128 + 3 * i) (by omega) (by omega), he (129 + 3 * i) (by omega) (by omega)]
    exact h.hall hi
  · intro i j hi hj n g
    rw [he 3 (by omega) (by omega)] at hi hj
    rw [he (127 + 3 * i) (by omega) (by omega), he (127 + 3 * j) (by omega) (by omega)] at g
    rw [he (128 + 3 * i) (by omega) (by omega), he (129 + 3 * i) (by omega) (by omega), he (128 + 3 * j) (by omega) (by omega), he (129 + 3 * j) (by omega) (by omega)]
    exact h.apart hi hj n g
  · intro i hi
    rw [he 4 (by omega) (by omega)] at hi
    rw [he (139 + 2 * i) (by omega) (by omega), he (140 + 2 * i) (by omega) (by omega)]
    exact h.post hi
  · intro i j hi hj g
    rw [he 4 (by omega) (by omega)] at hi hj
    rw [he (139 + 2 * i) (by omega) (by omega), he (139 + 2 * j) (by omega) (by omega)] at g
    exact h.oneP hi hj g
theorem TR_blk {b : Int} {σ τ : Nat → Int} {v : TVal} (h : WF b σ) (T : TR σ v) (he : ∀ k : Nat, k < 147 → (¬ (13 ≤ k ∧ k < 77)) → τ k = σ k) {r10 : Nat → Int32} (a10 : AR r10 (fun c => τ (13 + c)) 64) : TR τ (tvMk (v.1 0) (v.1 1) (v.1 2) (v.1 3) (v.1 4) (v.1 5) (v.1 6) (v.1 7) (v.1 8) (v.2 0) (v.2 1) (v.2 2) (v.2 3) (v.2 4) (v.2 5) (v.2 6) (v.2 7) (v.2 8) (v.2 9) r10 (v.2 11)) := by
  have gn := h.n
  have gm := h.m
  have gq := h.q
  have T1 := T.1
  refine TR.mk ?_ ?_ ?_ ?_ ?_ ?_ ?_ ?_ ?_ ?_ ?_ ?_ ?_ ?_ ?_ ?_ ?_ ?_ ?_ a10 ?_
  · rw [he 0 (by omega) (by omega)]; exact T1.1
  · rw [he 1 (by omega) (by omega)]; exact T1.2.1
  · rw [he 8 (by omega) (by omega)]; exact T1.2.2.1
  · rw [he 5 (by omega) (by omega)]; exact T1.2.2.2.1
  · rw [he 6 (by omega) (by omega)]; exact T1.2.2.2.2.1
  · rw [he 7 (by omega) (by omega)]; exact T1.2.2.2.2.2.1
  · rw [he 2 (by omega) (by omega)]; exact T1.2.2.2.2.2.2.1
  · rw [he 3 (by omega) (by omega)]; exact T1.2.2.2.2.2.2.2.1
  · rw [he 4 (by omega) (by omega)]; exact T1.2.2.2.2.2.2.2.2
  · rw [he 2 (by omega) (by omega)]; exact AR_cong T.a0 (by omega) (fun i hi => (he _ (by omega) (by omega)).symm)
  · rw [he 2 (by omega) (by omega)]; exact AR_cong T.a1 (by omega) (fun i hi => (he _ (by omega) (by omega)).symm)
  · rw [he 2 (by omega) (by omega)]; exact AR_cong T.a2 (by omega) (fun i hi => (he _ (by omega) (by omega)).symm)
  · rw [he 2 (by omega) (by omega)]; exact AR_cong T.a3 (by omega) (fun i hi => (he _ (by omega) (by omega)).symm)
  · rw [he 2 (by omega) (by omega)]; exact AR_cong T.a4 (by omega) (fun i hi => (he _ (by omega) (by omega)).symm)
  · rw [he 3 (by omega) (by omega)]; exact AR_cong T.a5 (by omega) (fun i hi => (he _ (by omega) (by omega)).symm)
  · rw [he 3 (by omega) (by omega)]; exact AR_cong T.a6 (by omega) (fun i hi => (he _ (by omega) (by omega)).symm)
  · rw [he 3 (by omega) (by omega)]; exact AR_cong T.a7 (by omega) (fun i hi => (he _ (by omega) (by omega)).symm)
  · rw [he 4 (by omega) (by omega)]; exact AR_cong T.a8 (by omega) (fun i hi => (he _ (by omega) (by omega)).symm)
  · rw [he 4 (by omega) (by omega)]; exact AR_cong T.a9 (by omega) (fun i hi => (he _ (by omega) (by omega)).symm)
  · exact AR_cong T.a11 (by omega) (fun i hi => (he _ (by omega) (by omega)).symm)
theorem WF_pass {b : Int} {σ τ : Nat → Int} (h : WF b σ) (hr : ∀ k, InR (τ k)) (he : ∀ k : Nat, k < 147 → (k ≠ 0 ∧ k ≠ 1) → τ k = σ k) (hhour : 0 ≤ τ 0 ∧ τ 0 ≤ 23) (hsums : (0 ≤ τ 1 ∧ τ 1 ≤ b) ∧ (0 ≤ τ 5 ∧ τ 5 ≤ b) ∧ (0 ≤ τ 6 ∧ τ 6 ≤ b) ∧ (0 ≤ τ 7 ∧ τ 7 ≤ b) ∧ (∀ k : Nat, k < 4 → 0 ≤ τ (9 + k) ∧ τ (9 + k) ≤ b) ∧ τ 9 + τ 10 + τ 11 + τ 12 = τ 5 + τ 6) : WF b τ := by
  have gn := h.n
  have gm := h.m
  have gq := h.q
  refine ⟨hr, hhour, ?_, ?_, ?_, ?_, hsums, ?_, ⟨?_, ?_⟩, ⟨?_, ?_⟩, ⟨?_, ?_⟩⟩
  · rw [he 2 (by omega) (by omega)]; exact h.n
  · rw [he 3 (by omega) (by omega)]; exact h.m
  · rw [he 4 (by omega) (by omega)]; exact h.q
  · rw [he 8 (by omega) (by omega)]; exact h.look
  · intro c hc
    rw [he (13 + c) (by omega) (by omega)]
    exact h.blk hc
  · intro i hi
    rw [he 2 (by omega) (by omega)] at hi
    rw [he (77 + 5 * i) (by omega) (by omega), he (78 + 5 * i) (by omega) (by omega), he (79 + 5 * i) (by omega) (by omega), he (80 + 5 * i) (by omega) (by omega), he (81 + 5 * i) (by omega) (by omega)]
    exact h.house hi
  · intro i j hi hj g
    rw [he 2 (by omega) (by omega)] at hi hj
    rw [he (77 + 5 * i) (by omega) (by omega), he (77 + 5 * j) (by omega) (by omega)] at g
    exact h.one hi hj g
  · intro i hi
    rw [he 3 (by omega) (by omega)] at hi
    rw [he (127 + 3 * i) (by omega) (by omega), he (128 + 3 * i) (by omega) (by omega), he (129 + 3 * i) (by omega) (by omega)]
    exact h.hall hi
  · intro i j hi hj n g
    rw [he 3 (by omega) (by omega)] at hi hj
    rw [he (127 + 3 * i) (by omega) (by omega), he (127 + 3 * j) (by omega) (by omega)] at g
    rw [he (128 + 3 * i) (by omega) (by omega), he (129 + 3 * i) (by omega) (by omega), he (128 + 3 * j) (by omega) (by omega), he (129 + 3 * j) (by omega) (by omega)]
    exact h.apart hi hj n g
  · intro i hi
    rw [he 4 (by omega) (by omega)] at hi
    rw [he (139 + 2 * i) (by omega) (by omega), he (140 + 2 * i) (by omega) (by omega)]
    exact h.post hi
  · intro i j hi hj g
    rw [he 4 (by omega) (by omega)] at hi hj
    rw [he (139 + 2 * i) (by omega) (by omega), he (139 + 2 * j) (by omega) (by omega)] at g
    exact h.oneP hi hj g
theorem TR_pass {b : Int} {σ τ : Nat → Int} {v : TVal} (h : WF b σ) (T : TR σ v) (he : ∀ k : Nat, k < 147 → (k ≠ 0 ∧ k ≠ 1) → τ k = σ k) {i0 i1 : Int32} (hi0 : i0 = I (τ 0)) (hi1 : i1 = I (τ 1)) : TR τ (tvMk i0 i1 (v.1 2) (v.1 3) (v.1 4) (v.1 5) (v.1 6) (v.1 7) (v.1 8) (v.2 0) (v.2 1) (v.2 2) (v.2 3) (v.2 4) (v.2 5) (v.2 6) (v.2 7) (v.2 8) (v.2 9) (v.2 10) (v.2 11)) := by
  have gn := h.n
  have gm := h.m
  have gq := h.q
  have T1 := T.1
  refine TR.mk hi0 hi1 ?_ ?_ ?_ ?_ ?_ ?_ ?_ ?_ ?_ ?_ ?_ ?_ ?_ ?_ ?_ ?_ ?_ ?_ ?_
  · rw [he 8 (by omega) (by omega)]; exact T1.2.2.1
  · rw [he 5 (by omega) (by omega)]; exact T1.2.2.2.1
  · rw [he 6 (by omega) (by omega)]; exact T1.2.2.2.2.1
  · rw [he 7 (by omega) (by omega)]; exact T1.2.2.2.2.2.1
  · rw [he 2 (by omega) (by omega)]; exact T1.2.2.2.2.2.2.1
  · rw [he 3 (by omega) (by omega)]; exact T1.2.2.2.2.2.2.2.1
  · rw [he 4 (by omega) (by omega)]; exact T1.2.2.2.2.2.2.2.2
  · rw [he 2 (by omega) (by omega)]; exact AR_cong T.a0 (by omega) (fun i hi => (he _ (by omega) (by omega)).symm)
  · rw [he 2 (by omega) (by omega)]; exact AR_cong T.a1 (by omega) (fun i hi => (he _ (by omega) (by omega)).symm)
  · rw [he 2 (by omega) (by omega)]; exact AR_cong T.a2 (by omega) (fun i hi => (he _ (by omega) (by omega)).symm)
  · rw [he 2 (by omega) (by omega)]; exact AR_cong T.a3 (by omega) (fun i hi => (he _ (by omega) (by omega)).symm)
  · rw [he 2 (by omega) (by omega)]; exact AR_cong T.a4 (by omega) (fun i hi => (he _ (by omega) (by omega)).symm)
  · rw [he 3 (by omega) (by omega)]; exact AR_cong T.a5 (by omega) (fun i hi => (he _ (by omega) (by omega)).symm)
  · rw [he 3 (by omega) (by omega)]; exact AR_cong T.a6 (by omega) (fun i hi => (he _ (by omega) (by omega)).symm)
  · rw [he 3 (by omega) (by omega)]; exact AR_cong T.a7 (by omega) (fun i hi => (he _ (by omega) (by omega)).symm)
  · rw [he 4 (by omega) (by omega)]; exact AR_cong T.a8 (by omega) (fun i hi => (he _ (by omega) (by omega)).symm)
  · rw [he 4 (by omega) (by omega)]; exact AR_cong T.a9 (by omega) (fun i hi => (he _ (by omega) (by omega)).symm)
  · exact AR_cong T.a10 (by omega) (fun i hi => (he _ (by omega) (by omega)).symm)
  · exact AR_cong T.a11 (by omega) (fun i hi => (he _ (by omega) (by omega)).symm)
