/-! ===== towns copied, towns of the past ===== -/
theorem AR_take {r r2 : Nat → Int32} {f : Nat → Int} {n : Int} {N : Nat} (h : AR r f n) (hn : n ≤ N) : AR (va_cpy r r2 0 0 N) f n := by
  intro i hi
  rw [pk_cpy_in (by omega) (by omega)]
  rw [show 0 + (i - 0) = i by omega]
  exact h i hi
theorem AR_cong {a : Nat → Int32} {f g : Nat → Int} {n m : Int} (h : AR a f n) (hm : m ≤ n) (hf : ∀ i : Nat, (i : Int) < m → f i = g i) : AR a g m := by
  intro i hi
  rw [← hf i hi]
  exact h i (by omega)
theorem x_take9 (i0 i1 i2 i3 i4 i5 i6 : Int32) (r0 r1 r2 r3 r4 : Nat → Int32) (i7 : Int32) (r5 r6 r7 : Nat → Int32) (i8 : Int32) (r8 r9 r10 r11 : Nat → Int32) (j0 j1 j2 j3 j4 j5 j6 : Int32) (s0 s1 s2 s3 s4 : Nat → Int32) (j7 : Int32) (s5 s6 s7 : Nat → Int32) (j8 : Int32) (s8 s9 s10 s11 : Nat → Int32) :
    F_X9_take i0 i1 i2 i3 i4 i5 i6 r0 r1 r2 r3 r4 i7 r5 r6 r7 i8 r8 r9 r10 r11 j0 j1 j2 j3 j4 j5 j6 s0 s1 s2 s3 s4 j7 s5 s6 s7 j8 s8 s9 s10 s11 = some (i0, i1, i2, i3, i4, i5, i6, va_cpy r0 s0 0 0 10, va_cpy r1 s1 0 0 10, va_cpy r2 s2 0 0 10, va_cpy r3 s3 0 0 10, va_cpy r4 s4 0 0 10, i7, va_cpy r5 s5 0 0 4, va_cpy r6 s6 0 0 4, va_cpy r7 s7 0 0 4, i8, va_cpy r8 s8 0 0 4, va_cpy r9 s9 0 0 4, va_cpy r10 s10 0 0 64, va_cpy r11 s11 0 0 4) := by
  unfold F_X9_take F_X2_take F_X1_take F_X5_take
  simp only [x_take 10 (by omega), x_take 4 (by omega), x_take 64 (by omega), bnd_some]
section PST
variable {b c : Int} {σ τ : Nat → Int} {v w : TVal}
theorem TR.a0 (h : TR σ v) : AR (v.2 0) (fun i => σ (77 + 5 * i)) (σ 2) := fun i hi => (h.2.1 i hi).1
theorem TR.a1 (h : TR σ v) : AR (v.2 1) (fun i => σ (78 + 5 * i)) (σ 2) := fun i hi => (h.2.1 i hi).2.1
theorem TR.a2 (h : TR σ v) : AR (v.2 2) (fun i => σ (79 + 5 * i)) (σ 2) := fun i hi => (h.2.1 i hi).2.2.1
theorem TR.a3 (h : TR σ v) : AR (v.2 3) (fun i => σ (80 + 5 * i)) (σ 2) := fun i hi => (h.2.1 i hi).2.2.2.1
theorem TR.a4 (h : TR σ v) : AR (v.2 4) (fun i => σ (81 + 5 * i)) (σ 2) := fun i hi => (h.2.1 i hi).2.2.2.2
theorem TR.a5 (h : TR σ v) : AR (v.2 5) (fun j => σ (127 + 3 * j)) (σ 3) := fun i hi => (h.2.2.1 i hi).1
theorem TR.a6 (h : TR σ v) : AR (v.2 6) (fun j => σ (128 + 3 * j)) (σ 3) := fun i hi => (h.2.2.1 i hi).2.1
theorem TR.a7 (h : TR σ v) : AR (v.2 7) (fun j => σ (129 + 3 * j)) (σ 3) := fun i hi => (h.2.2.1 i hi).2.2
theorem TR.a8 (h : TR σ v) : AR (v.2 8) (fun j => σ (139 + 2 * j)) (σ 4) := fun i hi => (h.2.2.2.1 i hi).1
theorem TR.a9 (h : TR σ v) : AR (v.2 9) (fun j => σ (140 + 2 * j)) (σ 4) := fun i hi => (h.2.2.2.1 i hi).2
theorem TR.a10 (h : TR σ v) : AR (v.2 10) (fun c => σ (13 + c)) 64 := fun i hi => h.2.2.2.2.1 i (by omega)
theorem TR.a11 (h : TR σ v) : AR (v.2 11) (fun k => σ (9 + k)) 4 := fun i hi => h.2.2.2.2.2 i (by omega)
theorem TR.mk (h0 : v.1 0 = I (σ 0)) (h1 : v.1 1 = I (σ 1)) (h2 : v.1 2 = I (σ 8 - 1)) (h3 : v.1 3 = I (σ 5)) (h4 : v.1 4 = I (σ 6)) (h5 : v.1 5 = I (σ 7)) (h6 : v.1 6 = I (σ 2)) (h7 : v.1 7 = I (σ 3)) (h8 : v.1 8 = I (σ 4))
    (a0 : AR (v.2 0) (fun i => σ (77 + 5 * i)) (σ 2)) (a1 : AR (v.2 1) (fun i => σ (78 + 5 * i)) (σ 2)) (a2 : AR (v.2 2) (fun i => σ (79 + 5 * i)) (σ 2)) (a3 : AR (v.2 3) (fun i => σ (80 + 5 * i)) (σ 2)) (a4 : AR (v.2 4) (fun i => σ (81 + 5 * i)) (σ 2))
    (a5 : AR (v.2 5) (fun j => σ (127 + 3 * j)) (σ 3)) (a6 : AR (v.2 6) (fun j => σ (128 + 3 * j)) (σ 3)) (a7 : AR (v.2 7) (fun j => σ (129 + 3 * j)) (σ 3)) (a8 : AR (v.2 8) (fun j => σ (139 + 2 * j)) (σ 4)) (a9 : AR (v.2 9) (fun j => σ (140 + 2 * j)) (σ 4))
    (a10 : AR (v.2 10) (fun c => σ (13 + c)) 64) (a11 : AR (v.2 11) (fun k => σ (9 + k)) 4) : TR σ v :=
  ⟨⟨h0, h1, h2, h3, h4, h5, h6, h7, h8⟩, fun i hi => ⟨a0 i hi, a1 i hi, a2 i hi, a3 i hi, a4 i hi⟩, fun i hi => ⟨a5 i hi, a6 i hi, a7 i hi⟩, fun i hi => ⟨a8 i hi, a9 i hi⟩, fun i hi => a10 i (by omega), fun i hi => a11 i (by omega)⟩
theorem WF.mono (h : WF b σ) (hb : b ≤ c) : WF c σ := by
  have hs := h.sums
  refine ⟨h.r, h.hour, h.n, h.m, h.q, h.look, ⟨⟨hs.1.1, by omega⟩, ⟨hs.2.1.1, by omega⟩, ⟨hs.2.2.1.1, by omega⟩, ⟨hs.2.2.2.1.1, by omega⟩, fun k hk => ⟨(hs.2.2.2.2.1 k hk).1, by have := (hs.2.2.2.2.1 k hk).2; omega⟩, hs.2.2.2.2.2⟩, fun c hc => h.blk hc, ⟨fun i hi => ?_, fun i j hi hj e => h.one hi hj e⟩, ⟨fun j hj => h.hall hj, fun i j hi hj n e => h.apart hi hj n e⟩, ⟨fun j hj => h.post hj, fun i j hi hj e => h.oneP hi hj e⟩⟩
  have := h.house hi
  exact ⟨this.1, this.2.1, this.2.2.1, ⟨this.2.2.2.1.1, by omega⟩, ⟨this.2.2.2.2.1, by omega⟩⟩
theorem WF_cong (h : WF b σ) (hr : ∀ k, InR (τ k)) (he : ∀ k : Nat, k < 147 → τ k = σ k) : WF b τ := by
  have hn := h.n
  have hm := h.m
  have hq := h.q
  have e := fun k (hk : k < 147) => he k hk
  refine ⟨hr, ?_, ?_, ?_, ?_, ?_, ?_, ?_, ⟨?_, ?_⟩, ⟨?_, ?_⟩, ⟨?_, ?_⟩⟩
  · rw [e 0 (by omega)]; exact h.hour
  · rw [e 2 (by omega)]; exact h.n
  · rw [e 3 (by omega)]; exact h.m
  · rw [e 4 (by omega)]; exact h.q
  · rw [e 8 (by omega)]; exact h.look
  · rw [e 1 (by omega), e 5 (by omega), e 6 (by omega), e 7 (by omega), e 9 (by omega), e 10 (by omega), e 11 (by omega), e 12 (by omega)]
    refine ⟨h.sums.1, h.sums.2.1, h.sums.2.2.1, h.sums.2.2.2.1, fun k hk => ?_, h.sums.2.2.2.2.2⟩
    rw [e (9 + k) (by omega)]
    exact h.sums.2.2.2.2.1 k hk
  · intro c hc
    rw [e (13 + c) (by omega)]
    exact h.blk hc
  · intro i hi
    rw [e 2 (by omega)] at hi
    rw [e (77 + 5 * i) (by omega), e (78 + 5 * i) (by omega), e (79 + 5 * i) (by omega), e (80 + 5 * i) (by omega), e (81 + 5 * i) (by omega)]
    exact h.house hi
  · intro i j hi hj g
    rw [e 2 (by omega)] at hi hj
    rw [e (77 + 5 * i) (by omega), e (77 + 5 * j) (by omega)] at g
    exact h.one hi hj g
  · intro i hi
    rw [e 3 (by omega)] at hi
    rw [e (127 + 3 * i) (by omega), e (128 + 3 * i) (by omega), e (129 + 3 * i) (by omega)]
    exact h.hall hi
  · intro i j hi hj n g
    rw [e 3 (by omega)] at hi hj
    rw [e (127 + 3 * i) (by omega), e (127 + 3 * j) (by omega)] at g
    rw [e (128 + 3 * i) (by omega), e (129 + 3 * i) (by omega), e (128 + 3 * j) (by omega), e (129 + 3 * j) (by omega)]
    exact h.apart hi hj n g
  · intro i hi
    rw [e 4 (by omega)] at hi
    rw [e (139 + 2 * i) (by omega), e (140 + 2 * i) (by omega)]
    exact h.post hi
  · intro i j hi hj g
    rw [e 4 (by omega)] at hi hj
    rw [e (139 + 2 * i) (by omega), e (139 + 2 * j) (by omega)] at g
    exact h.oneP hi hj g
theorem TR_cong (h : WF b σ) (T : TR σ v) (he : ∀ k : Nat, k < 147 → τ k = σ k) : TR τ v := by
  have hn := h.n
  have hm := h.m
  have hq := h.q
  have e := fun k (hk : k < 147) => he k hk
  refine ⟨?_, ?_, ?_, ?_, ?_, ?_⟩
  · rw [e 0 (by omega), e 1 (by omega), e 8 (by omega), e 5 (by omega), e 6 (by omega), e 7 (by omega), e 2 (by omega), e 3 (by omega), e 4 (by omega)]
    exact T.1
  · intro i hi
    rw [e 2 (by omega)] at hi
    rw [e (77 + 5 * i) (by omega), e (78 + 5 * i) (by omega), e (79 + 5 * i) (by omega), e (80 + 5 * i) (by omega), e (81 + 5 * i) (by omega)]
    exact T.2.1 i hi
  · intro i hi
    rw [e 3 (by omega)] at hi
    rw [e (127 + 3 * i) (by omega), e (128 + 3 * i) (by omega), e (129 + 3 * i) (by omega)]
    exact T.2.2.1 i hi
  · intro i hi
    rw [e 4 (by omega)] at hi
    rw [e (139 + 2 * i) (by omega), e (140 + 2 * i) (by omega)]
    exact T.2.2.2.1 i hi
  · intro c hc
    rw [e (13 + c) (by omega)]
    exact T.2.2.2.2.1 c hc
  · intro k hk
    rw [e (9 + k) (by omega)]
    exact T.2.2.2.2.2 k hk
/-- what is copied out of a town is that town -/
theorem TR_take (h : WF b σ) (T : TR σ v) (w : TVal) : TR σ (tvMk (v.1 0) (v.1 1) (v.1 2) (v.1 3) (v.1 4) (v.1 5) (v.1 6) (v.1 7) (v.1 8) (va_cpy (v.2 0) (w.2 0) 0 0 10) (va_cpy (v.2 1) (w.2 1) 0 0 10) (va_cpy (v.2 2) (w.2 2) 0 0 10) (va_cpy (v.2 3) (w.2 3) 0 0 10) (va_cpy (v.2 4) (w.2 4) 0 0 10) (va_cpy (v.2 5) (w.2 5) 0 0 4) (va_cpy (v.2 6) (w.2 6) 0 0 4) (va_cpy (v.2 7) (w.2 7) 0 0 4) (va_cpy (v.2 8) (w.2 8) 0 0 4) (va_cpy (v.2 9) (w.2 9) 0 0 4) (va_cpy (v.2 10) (w.2 10) 0 0 64) (va_cpy (v.2 11) (w.2 11) 0 0 4)) := by
  have hn := h.n
  have hm := h.m
  have hq := h.q
  have T1 := T.1
  exact TR.mk T1.1 T1.2.1 T1.2.2.1 T1.2.2.2.1 T1.2.2.2.2.1 T1.2.2.2.2.2.1 T1.2.2.2.2.2.2.1 T1.2.2.2.2.2.2.2.1 T1.2.2.2.2.2.2.2.2 (AR_take T.a0 (by omega)) (AR_take T.a1 (by omega)) (AR_take T.a2 (by omega)) (AR_take T.a3 (by omega)) (AR_take T.a4 (by omega)) (AR_take T.a5 (by omega)) (AR_take T.a6 (by omega)) (AR_take T.a7 (by omega)) (AR_take T.a8 (by omega)) (AR_take T.a9 (by omega)) (AR_take T.a10 (by omega)) (AR_take T.a11 (by omega))
/-- the towns of the past: n of them, the newest ahead of place e -/
def Pst (b : Int) (n e : Nat) (pool : Nat → TVal) (π : Nat → Int) : Prop :=
  n ≤ 8 ∧ e < 8 ∧ (∀ k, InR (π k)) ∧ ∀ j, j < n → WF b (fun k => π (147 * j + k)) ∧ TR (fun k => π (147 * j + k)) (pool ((e + 8 - n + j) % 8))
/-- the reference's row with one town more -/
def pushP (n : Nat) (τ π : Nat → Int) : Nat → Int := if n = 8 then CP τ (CP π π 147 0 1029) 0 1029 147 else CP τ π 0 (147 * n) 147
theorem pushP_r {n : Nat} {τ π : Nat → Int} (h1 : ∀ k, InR (τ k)) (h2 : ∀ k, InR (π k)) (k : Nat) : InR (pushP n τ π k) := by
  unfold pushP CP
  split
  · show InR (if _ then _ else _)
    split
    · exact h1 _
    · split
      · exact h2 _
      · exact h2 _
  · show InR (if _ then _ else _)
    split
    · exact h1 _
    · exact h2 _
theorem Pst.mono {n e : Nat} {pool : Nat → TVal} {π : Nat → Int} (h : Pst b n e pool π) (hb : b ≤ c) : Pst c n e pool π :=
  ⟨h.1, h.2.1, h.2.2.1, fun j hj => ⟨(h.2.2.2 j hj).1.mono hb, (h.2.2.2 j hj).2⟩⟩
theorem Pst_push {n e : Nat} {pool : Nat → TVal} {π : Nat → Int} (h : Pst b n e pool π) (hw : WF b τ) (T : TR τ v) : Pst b (if n = 8 then 8 else n + 1) ((e + 1) % 8) (updP pool e v) (pushP n τ π) := by
  obtain ⟨h1, h2, h3, h4⟩ := h
  refine ⟨by split <;> omega, by omega, fun k => pushP_r hw.r h3 k, fun j hj => ?_⟩
  by_cases hn : n = 8
  · rw [if_pos hn] at hj ⊢
    by_cases e1 : j = 7
    · have ec : ∀ k : Nat, k < 147 → (fun k => pushP n τ π (147 * j + k)) k = τ k := by
        intro k hk
        show pushP n τ π (147 * j + k) = τ k
        unfold pushP CP
        rw [if_pos hn]
        show (if _ then _ else _) = _
        rw [if_pos (by omega)]
        exact congrArg τ (by omega)
      refine ⟨WF_cong hw (fun k => pushP_r hw.r h3 _) ec, ?_⟩
      have : ((e + 1) % 8 + 8 - 8 + j) % 8 = e := by omega
      rw [this]
      unfold updP
      rw [if_pos rfl]
      exact TR_cong hw T ec
    · obtain ⟨a1, a2⟩ := h4 (j + 1) (by omega)
      have ec : ∀ k : Nat, k < 147 → (fun k => pushP n τ π (147 * j + k)) k = (fun k => π (147 * (j + 1) + k)) k := by
        intro k hk
        show pushP n τ π (147 * j + k) = π (147 * (j + 1) + k)
        unfold pushP CP
        rw [if_pos hn]
        show (if _ then _ else _) = _
        rw [if_neg (by omega), if_pos (by omega)]
        exact congrArg π (by omega)
      refine ⟨WF_cong a1 (fun k => pushP_r hw.r h3 _) ec, ?_⟩
      have : ((e + 1) % 8 + 8 - 8 + j) % 8 = (e + 8 - n + (j + 1)) % 8 := by omega
      rw [this]
      unfold updP
      rw [if_neg (by omega)]
      exact TR_cong a1 a2 ec
  · rw [if_neg hn] at hj ⊢
    by_cases e1 : j = n
    · have ec : ∀ k : Nat, k < 147 → (fun k => pushP n τ π (147 * j + k)) k = τ k := by
        intro k hk
        show pushP n τ π (147 * j + k) = τ k
        unfold pushP CP
        rw [if_neg hn]
        show (if _ then _ else _) = _
        rw [if_pos (by omega)]
        exact congrArg τ (by omega)
      refine ⟨WF_cong hw (fun k => pushP_r hw.r h3 _) ec, ?_⟩
      have : ((e + 1) % 8 + 8 - (n + 1) + j) % 8 = e := by omega
      rw [this]
      unfold updP
      rw [if_pos rfl]
      exact TR_cong hw T ec
    · obtain ⟨a1, a2⟩ := h4 j (by omega)
      have ec : ∀ k : Nat, k < 147 → (fun k => pushP n τ π (147 * j + k)) k = (fun k => π (147 * j + k)) k := by
        intro k hk
        show pushP n τ π (147 * j + k) = π (147 * j + k)
        unfold pushP CP
        rw [if_neg hn]
        show (if _ then _ else _) = _
        rw [if_neg (by omega)]
      refine ⟨WF_cong a1 (fun k => pushP_r hw.r h3 _) ec, ?_⟩
      have : ((e + 1) % 8 + 8 - (n + 1) + j) % 8 = (e + 8 - n + j) % 8 := by omega
      rw [this]
      unfold updP
      rw [if_neg (by omega)]
      exact TR_cong a1 a2 ec
theorem x_push {n e : Nat} {pool : Nat → TVal} {π : Nat → Int} {i0 i1 i2 i3 i4 i5 i6 i7 i8 : Int32} {r0 r1 r2 r3 r4 r5 r6 r7 r8 r9 r10 r11 : Nat → Int32} (T : TR σ (tvMk i0 i1 i2 i3 i4 i5 i6 i7 i8 r0 r1 r2 r3 r4 r5 r6 r7 r8 r9 r10 r11)) (h : WF b σ) (hP : Pst b n e pool π) :
    ∃ pool', F_X4_push i0 i1 i2 i3 i4 i5 i6 r0 r1 r2 r3 r4 i7 r5 r6 r7 i8 r8 r9 r10 r11 (I n) (I e) pool = some (I (if n = 8 then 8 else n + 1 : Nat), I ((e + 1) % 8 : Nat), pool') ∧ Pst b (if n = 8 then 8 else n + 1) ((e + 1) % 8) pool' (pushP n σ π) := by
  refine ⟨_, ?_, Pst_push hP h (TR_take h T (pool e))⟩
  obtain ⟨h1, h2, -, -⟩ := hP
  unfold F_X4_push
  have ecl : (I (e : Int)).toNatClampNeg = e := by rw [I_cl (by omega) (by omega)]; omega
  rw [grd_pos _ (by rw [I_inb (by omega) (by omega)]; omega), ecl, x_take9, bnd_some]
  have e1 : (if (8 : Int32) < I n + 1 then (8 : Int32) else I n + 1) = I (if n = 8 then 8 else n + 1 : Nat) := by
    rw [lit_8, lit_1, I_add]
    simp (disch := omega) only [I_lt, I_ite]
    congr 1
    split <;> split <;> omega
  have e2 : (I e + 1) - (I e + 1) / 8 * 8 = I ((e + 1) % 8 : Nat) := by
    rw [lit_8, lit_1, I_add, I_rem (by omega) (by omega) (by omega) (by omega)]
    congr 1
  rw [e1, e2]
  rfl
theorem m_keep (s : Int32) (β : Nat → Int) : F_X12_keep (J σ) s (J β) = some (0, J (CP σ β 0 0 147)) := by
  unfold F_X12_keep
  have c0 : (0 : Int32).toNatClampNeg = 0 := by decide
  have c1 : (147 : Int32).toNatClampNeg = 147 := by decide
  rw [grd_pos _ (by rw [lit_0, lit_147]; exact I_cpy (by omega) (by omega) (by omega) (by omega) (by omega) (by omega) (by omega) (by omega)), c0, c1, J_cpy]
theorem m_ends {n : Nat} (hn : n ≤ 8) (r : Int32) (s : Nat → Int32) (β π : Nat → Int) : F_X12_ends r 0 (J (CP σ β 0 0 147)) (I n) s (J π) = some (r, I (if n = 8 then 8 else n + 1 : Nat), s, J (pushP n σ π)) := by
  have c0 : (0 : Int32).toNatClampNeg = 0 := by decide
  have c1 : (147 : Int32).toNatClampNeg = 147 := by decide
  have c2 : (1029 : Int32).toNatClampNeg = 1029 := by decide
  have lit_1176 : (1176 : Int32) = I 1176 := by decide
  have seg : ∀ (g : Nat → Int) (p : Nat), CP (CP σ β 0 0 147) g 0 p 147 = CP σ g 0 p 147 := by
    intro g p
    funext j
    unfold CP
    by_cases h : p ≤ j ∧ j < p + 147
    · rw [if_pos h, if_pos h, if_pos (by omega)]
      congr 1
      omega
    · rw [if_neg h, if_neg h]
  unfold F_X12_ends J_X12_ends_62 pushP
  rw [brn_pos _ _ (by decide)]
  by_cases e : n = 8
  · subst e
    rw [brn_pos _ _ (by decide), grd_pos _ (by rw [lit_147, lit_0, lit_1029]; exact I_cpy (by omega) (by omega) (by omega) (by omega) (by omega) (by omega) (by omega) (by omega))]
    have e1 : 147 * (I ((8 : Nat) : Int) - 1) = I 1029 := by decide
    have e2 : I ((8 : Nat) : Int) - 1 + 1 = I ((if (8 : Nat) = 8 then 8 else 8 + 1 : Nat) : Int) := by decide
    rw [e1, e2, grd_pos _ (by rw [lit_0, lit_147]; exact I_cpy (by omega) (by omega) (by omega) (by omega) (by omega) (by omega) (by omega) (by omega)), ← lit_1029, c0, c1, c2, J_cpy, J_cpy, if_pos rfl, seg]
    rfl
  · rw [brn_neg _ _ (by rw [lit_8, I_eq (by omega) (by omega) (by omega) (by omega)]; omega)]
    have e1 : 147 * I (n : Int) = I ((147 * n : Nat) : Int) := by rw [lit_147, I_mul]; congr 1
    have e2 : I (n : Int) + 1 = I ((if n = 8 then 8 else n + 1 : Nat) : Int) := by rw [lit_1, I_add, if_neg e]; congr 1
    have e3 : (I ((147 * n : Nat) : Int)).toNatClampNeg = 147 * n := by rw [I_cl (by omega) (by omega)]; omega
    rw [e1, e2, grd_pos _ (by rw [lit_0, lit_147]; exact I_cpy (by omega) (by omega) (by omega) (by omega) (by omega) (by omega) (by omega) (by omega)), e3, c0, c1, J_cpy, if_neg e, if_neg e, seg]
theorem m_endsF {t : Int} (ht : 0 < t) (ht2 : t < 100) (r : Int32) (m : Int32) (s : Nat → Int) (β : Nat → Int) (π : Nat → Int32) : F_X12_ends r (I t) (J (CP σ β 0 0 147)) m (J s) π = some (0, m, J (CP σ s 0 0 147), π) := by
  have c0 : (0 : Int32).toNatClampNeg = 0 := by decide
  have c1 : (147 : Int32).toNatClampNeg = 147 := by decide
  have seg : CP (CP σ β 0 0 147) s 0 0 147 = CP σ s 0 0 147 := by
    funext j
    unfold CP
    by_cases h : 0 ≤ j ∧ j < 0 + 147
    · rw [if_pos h, if_pos h, if_pos (by omega)]
      congr 1
      omega
    · rw [if_neg h, if_neg h]
  unfold F_X12_ends
  rw [brn_neg _ _ (by rw [lit_0, I_le (by omega) (by omega) (by omega) (by omega)]; omega), grd_pos _ (by rw [lit_0, lit_147]; exact I_cpy (by omega) (by omega) (by omega) (by omega) (by omega) (by omega) (by omega) (by omega)), c0, c1, J_cpy, seg]
theorem CP_self (σ : Nat → Int) : CP σ σ 0 0 147 = σ := by
  funext j
  unfold CP
  split
  · congr 1
    omega
  · rfl
end PST
/-! ===== what holds between the class and the reference ===== -/
/-- the class's town; the kept one -/
def xT (x : XVal) : TVal := (fun k => x.1 (k + 1), x.2.1)
def xK (x : XVal) : TVal := (fun k => x.1 (k + 19), fun k => x.2.1 (k + 24))
def RT (b : Int) (σ : Nat → Int) (x : XVal) (y : MVal) : Prop := WF b σ ∧ y.2 0 = J σ ∧ TR σ (xT x)
def RK (b : Int) (x : XVal) (y : MVal) : Prop := x.1 0 = y.1 0 ∧ (x.1 0 = 0 ∨ x.1 0 = 1 ∧ ∃ κ, WF b κ ∧ y.2 2 = J κ ∧ TR κ (xK x))
def RP (b : Int) (n e : Nat) (π : Nat → Int) (x : XVal) (y : MVal) : Prop := x.1 28 = I n ∧ x.1 29 = I e ∧ y.1 1 = I n ∧ y.2 3 = J π ∧ Pst b n e x.2.2 π
def RR (x : XVal) (y : MVal) : Prop := x.1 30 = -1 ∧ y.1 3 = 0 ∨ x.1 30 = y.1 3 ∧ x.1 31 = y.1 4 ∧ ∃ r : Int, 0 < r ∧ r < 100 ∧ x.1 30 = I r
def RO (x : XVal) (y : MVal) : Prop := x.1 35 = y.1 12 ∧ ∃ n : Nat, n ≤ 60 ∧ x.1 32 = I n ∧ y.1 9 = I n ∧ ∀ i, i < n → x.2.1 36 i = y.2 7 i
def RS (x : XVal) (y : MVal) : Prop := ∃ n : Nat, n ≤ 20 ∧ x.1 38 = I n ∧ y.1 8 = I n ∧ ∀ i, i < n → x.2.1 43 i = y.2 6 i ∧ vp_nar .char (x.2.1 43 i) = x.2.1 43 i
def Rel (b : Int) (x : XVal) (y : MVal) : Prop := ∃ (σ π : Nat → Int) (n e : Nat), RT b σ x y ∧ RK b x y ∧ RP b n e π x y ∧ RR x y ∧ RO x y ∧ RS x y
theorem RT.mono {b c : Int} {σ : Nat → Int} {x : XVal} {y : MVal} (h : RT b σ x y) (hb : b ≤ c) : RT c σ x y := ⟨h.1.mono hb, h.2⟩
theorem RK.mono {b c : Int} {x : XVal} {y : MVal} (h : RK b x y) (hb : b ≤ c) : RK c x y := ⟨h.1, h.2.elim Or.inl (fun ⟨h1, κ, h2, h3⟩ => Or.inr ⟨h1, κ, h2.mono hb, h3⟩)⟩
theorem RP.mono {b c : Int} {n e : Nat} {π : Nat → Int} {x : XVal} {y : MVal} (h : RP b n e π x y) (hb : b ≤ c) : RP c n e π x y := ⟨h.1, h.2.1, h.2.2.1, h.2.2.2.1, h.2.2.2.2.mono hb⟩
