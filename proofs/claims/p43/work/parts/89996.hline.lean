/-! ===== lines: the line of a house ===== -/
def asc (z : Int32) : Prop := ∃ k : Nat, k < 128 ∧ z = nI k
/-- the sheet begins with the letters l -/
def LSg (l : List Int32) (a : Nat → Int32) : Prop := (∀ z ∈ l, asc z) ∧ ∀ i : Nat, i < l.length → a i = l.getD i 0
theorem asc_nar {z : Int32} (h : asc z) : vp_nar .char z = z := by
  obtain ⟨k, hk, rfl⟩ := h
  have : ∀ k, k < 128 → vp_nar .char (nI k) = nI k := by decide +kernel
  exact this k hk
theorem asc_byte {z : Int32} (h : asc z) : (((z &&& (255 : Int32)).toUInt32 % 65536).toInt32) = z := by
  obtain ⟨k, hk, rfl⟩ := h
  have : ∀ k, k < 128 → (((nI k &&& (255 : Int32)).toUInt32 % 65536).toInt32) = nI k := by decide +kernel
  exact this k hk
theorem asc_dgl {k : Nat} (hk : k < 100) : ∀ z ∈ dgl k, asc z := by
  intro z hz
  unfold dgl at hz
  by_cases h : k < 10
  · rw [if_pos h] at hz
    rw [List.mem_singleton] at hz
    exact ⟨48 + k, by omega, hz⟩
  · rw [if_neg h] at hz
    rcases List.mem_cons.mp hz with hz | hz
    · exact ⟨48 + k / 10, by omega, hz⟩
    · rw [List.mem_singleton] at hz
      exact ⟨48 + k % 10, by omega, hz⟩
section LSV
variable {l : List Int32} {a : Nat → Int32}
theorem LS_put {z : Int32} (h : LSg l a) (hl : l.length < 20) (hz : asc z) : F_X8_putSign z (I (l.length : Int)) a = some (I ((l ++ [z]).length : Int), upd a l.length z) ∧ LSg (l ++ [z]) (upd a l.length z) := by
  have e : (l ++ [z]).length = l.length + 1 := by rw [List.length_append]; rfl
  refine ⟨?_, ?_, fun i hi => ?_⟩
  · rw [put1 hl (asc_nar hz), e]
  · intro w hw
    rcases List.mem_append.mp hw with q | q
    · exact h.1 w q
    · rw [List.mem_singleton] at q
      rw [q]; exact hz
  · rw [e] at hi
    unfold upd
    rw [List.getD_eq_getElem?_getD]
    by_cases q : i = l.length
    · rw [if_pos q, q, List.getElem?_append_right (Nat.le_refl _), Nat.sub_self]
      rfl
    · rw [if_neg q, h.2 i (by omega), List.getElem?_append_left (by omega), List.getD_eq_getElem?_getD]
theorem LS_num {p : Int} (h : LSg l a) (h1 : 0 ≤ p) (h2 : p ≤ 99) (hl : l.length + 2 ≤ 20 ∨ p ≤ 9 ∧ l.length + 1 ≤ 20) : ∃ a2, F_X8_putNumber (I p) (I (l.length : Int)) a = some (I ((l ++ dgl p.toNat).length : Int), a2) ∧ LSg (l ++ dgl p.toNat) a2 := by
  have e : I p - I p / 10 * 10 = I (p % 10) := by rw [lit_10, I_rem (by omega) (by omega) (by omega) (by omega)]
  obtain ⟨d1, d2, d3⟩ := dg (d := p % 10) (by omega) (by omega)
  have as1 : ∀ q : Int, 0 ≤ q → q ≤ 9 → asc (I (48 + q)) := fun q h1 h2 => ⟨(48 + q).toNat, by omega, by rw [← nI_I]; congr 1; omega⟩
  unfold F_X8_putNumber J_X8_putNumber_17
  by_cases q : p < 10
  · obtain ⟨s1, s2⟩ := LS_put (z := I (48 + p)) h (by omega) (as1 p (by omega) (by omega))
    have ed : dgl p.toNat = [I (48 + p)] := by
      unfold dgl
      rw [if_pos (by omega), ← nI_I]
      congr 2
      omega
    refine ⟨_, ?_, by rw [ed]; exact s2⟩
    rw [brn_pos _ _ (by rw [lit_10, I_lt (by omega) (by omega) (by omega) (by omega)]; exact q), e, d1, bnd_some, show p % 10 = p by omega, s1, bnd_some, ed]
  · have e2 : I p / 10 = I (p / 10) := by rw [lit_10, I_div (by omega) (by omega) (by omega) (by omega)]
    obtain ⟨g1, g2, g3⟩ := dg (d := p / 10) (by omega) (by omega)
    obtain ⟨s1, s2⟩ := LS_put (z := I (48 + p / 10)) h (by omega) (as1 (p / 10) (by omega) (by omega))
    obtain ⟨s3, s4⟩ := LS_put (z := I (48 + p % 10)) s2 (by rw [List.length_append]; show l.length + 1 < 20; omega) (as1 (p % 10) (by omega) (by omega))
    have ed : l ++ dgl p.toNat = (l ++ [I (48 + p / 10)]) ++ [I (48 + p % 10)] := by
      have e1 : dgl p.toNat = [I (48 + p / 10), I (48 + p % 10)] := by
        unfold dgl
        rw [if_neg (by omega), ← nI_I, ← nI_I, show ((48 + p.toNat / 10 : Nat) : Int) = 48 + p / 10 by omega, show ((48 + p.toNat % 10 : Nat) : Int) = 48 + p % 10 by omega]
      rw [e1, List.append_assoc]
      rfl
    refine ⟨_, ?_, by rw [ed]; exact s4⟩
    rw [brn_neg _ _ (by rw [lit_10, I_lt (by omega) (by omega) (by omega) (by omega)]; exact q), e, e2, g1, bnd_some, s1, bnd_some]
    dsimp only
    rw [d1, bnd_some, s3, bnd_some, ed]
end LSV
section LSH
variable {b : Int} {σ : Nat → Int} {v : TVal}
theorem v_marks (h : WF b σ) (T : TR σ v) {i : Nat} (hi : (i : Int) < σ 2) (p3 : Int32) (c0 c1 c2 : Nat → Int32) : ∀ (r k f : Nat) (l : List Int32) (a : Nat → Int32), k + r ≤ 9 → ((k + r : Nat) : Int) ≤ σ (81 + 5 * i) → (k + r = 9 ∨ ((k + r : Nat) : Int) = σ (81 + 5 * i)) → r < f → l.length + r ≤ 20 → LSg l a →
    ∃ a2, L_X8_writeHouse_81 (I i) p3 c0 c1 c2 (v.2 4) f (I k) (I (l.length : Int)) a = some (I ((l ++ List.replicate r 33).length : Int), I ((l ++ List.replicate r 33).length : Int), a2) ∧ LSg (l ++ List.replicate r 33) a2 := by
  have hr := h.r (81 + 5 * i)
  have pa : F_X2_pranksAt (I i) (v.2 4) = some (I (σ (81 + 5 * i))) := by
    unfold F_X2_pranksAt
    rw [x_at10 T.a4 hi h.n.2, bnd_some]
  intro r
  induction r with
  | zero =>
    intro k f l a h1 h2 h3 hf hn hL
    obtain ⟨f, rfl⟩ : ∃ g, f = g + 1 := ⟨f - 1, by omega⟩
    rw [show l ++ List.replicate 0 (33 : Int32) = l from List.append_nil l]
    refine ⟨a, ?_, hL⟩
    rw [L_X8_writeHouse_81, pa, bnd_some]
    unfold J_X8_writeHouse_110
    by_cases e : k = 9
    · rw [brn_pos _ _ (by rw [e]; decide)]
    · rw [brn_neg _ _ (by rw [lit_9, I_le (by omega) (by omega) (by omega) (by omega)]; omega), brn_pos _ _ (by rw [I_le (by omega) (by omega) (by omega) (by omega)]; omega)]
  | succ r ih =>
    intro k f l a h1 h2 h3 hf hn hL
    obtain ⟨f, rfl⟩ : ∃ g, f = g + 1 := ⟨f - 1, by omega⟩
    obtain ⟨s1, s3⟩ := LS_put (z := 33) hL (by omega) ⟨33, by omega, by decide⟩
    obtain ⟨a2, u1, u3⟩ := ih (k + 1) f (l ++ [33]) _ (by omega) (by omega) (by omega) (by omega) (by rw [List.length_append]; show l.length + 1 + r ≤ 20; omega) s3
    have nn : (l ++ [33]) ++ List.replicate r 33 = l ++ List.replicate (r + 1) (33 : Int32) := by rw [List.append_assoc]; rfl
    rw [nn] at u1 u3
    refine ⟨a2, ?_, u3⟩
    rw [L_X8_writeHouse_81, pa, bnd_some, brn_neg _ _ (by rw [lit_9, I_le (by omega) (by omega) (by omega) (by omega)]; omega), brn_neg _ _ (by rw [I_le (by omega) (by omega) (by omega) (by omega)]; omega), s1, bnd_some, kk_I]
    exact u1
/-- the marks of a house's pranks -/
def mkL (w : Int) : List Int32 := (tB 5).drop (9 - w.toNat)
theorem mkL_rep (w : Int) {r : Nat} (h : r ≤ 9) (h0 : (r : Int) ≤ w) (h1 : r = 9 ∨ (r : Int) = w) : mkL w = List.replicate r 33 := by
  unfold mkL
  have e : 9 - w.toNat = 9 - r := by omega
  rw [e]
  have : ∀ r, r ≤ 9 → (tB 5).drop (9 - r) = List.replicate r 33 := by decide
  exact this r h
theorem v_tail (h : WF b σ) (T : TR σ v) {i : Nat} (hi : (i : Int) < σ 2) {l : List Int32} {a : Nat → Int32} (hL : LSg l a) (hn : l.length ≤ 10) (c0 : Nat → Int32) : ∃ a2, J_X8_writeHouse_63 (I i) (I (σ 0)) c0 (v.2 1) (v.2 2) (v.2 4) (I (l.length : Int)) a = some (I ((l ++ tB (zI (I (if slB σ i (σ 0) = true then 1 else 0))) ++ mkL (σ (81 + 5 * i))).length : Int), I ((l ++ tB (zI (I (if slB σ i (σ 0) = true then 1 else 0))) ++ mkL (σ (81 + 5 * i))).length : Int), a2) ∧ LSg (l ++ tB (zI (I (if slB σ i (σ 0) = true then 1 else 0))) ++ mkL (σ (81 + 5 * i))) a2 ∧ (l ++ tB (zI (I (if slB σ i (σ 0) = true then 1 else 0))) ++ mkL (σ (81 + 5 * i))).length ≤ 20 := by
  have hh := h.hour
  have hc := h.house hi
  have h10 := h.n
  have last : ∀ (l : List Int32) (a : Nat → Int32), LSg l a → l.length ≤ 11 → ∃ a2, J_X8_writeHouse_78 (I i) (I (σ 0)) c0 (v.2 1) (v.2 2) (v.2 4) (I (l.length : Int)) a = some (I ((l ++ mkL (σ (81 + 5 * i))).length : Int), I ((l ++ mkL (σ (81 + 5 * i))).length : Int), a2) ∧ LSg (l ++ mkL (σ (81 + 5 * i))) a2 ∧ (l ++ mkL (σ (81 + 5 * i))).length ≤ 20 := by
    intro l a hA hm
    have M : ∃ r : Nat, r ≤ 9 ∧ (r : Int) ≤ σ (81 + 5 * i) ∧ (r = 9 ∨ (r : Int) = σ (81 + 5 * i)) := by
      by_cases q : σ (81 + 5 * i) < 9
      · exact ⟨(σ (81 + 5 * i)).toNat, by omega, by omega, Or.inr (by omega)⟩
      · exact ⟨9, by omega, by omega, Or.inl rfl⟩
    obtain ⟨r, m1', m2', m3'⟩ := M
    obtain ⟨a2, u1, u3⟩ := v_marks h T hi (I (σ 0)) c0 (v.2 1) (v.2 2) r 0 100 l a (by omega) (by rw [Nat.zero_add]; exact m2') (by rw [Nat.zero_add]; exact m3') (by omega) (by omega) hA
    rw [mkL_rep (σ (81 + 5 * i)) m1' m2' m3']
    refine ⟨a2, ?_, u3, by rw [List.length_append, List.length_replicate]; omega⟩
    unfold J_X8_writeHouse_78
    exact u1
  unfold J_X8_writeHouse_63
  rw [x_isAsleep h T.a1 T.a2 hi hh.1 hh.2, bnd_some]
  cases slB σ i (σ 0) with
  | false =>
    have et : tB (zI (I (if false = true then 1 else 0))) = [] := by decide
    rw [brn_pos _ _ (show bI false = 0 from rfl), et, List.append_nil]
    exact last l a hL (by omega)
  | true =>
    have et : tB (zI (I (if true = true then 1 else 0))) = [122] := by decide
    obtain ⟨s1, s3⟩ := LS_put (z := 122) hL (by omega) ⟨122, by omega, by decide⟩
    rw [brn_neg _ _ (show ¬ bI true = 0 by decide), et, s1, bnd_some]
    exact last _ _ s3 (by rw [List.length_append]; show l.length + 1 ≤ 11; omega)
/-- the line's middle: the hours -/
def mdL (σ : Nat → Int) (i : Nat) : List Int32 := if slN σ i ≤ 0 then tB 3 else lnB (I (σ (78 + 5 * i))) (I (σ (79 + 5 * i)))
def hlL (σ : Nat → Int) (i : Nat) : List Int32 := lnA (I i) (I (σ (77 + 5 * i))) ++ mdL σ i ++ tB (zI (I (if slB σ i (σ 0) = true then 1 else 0))) ++ mkL (σ (81 + 5 * i))
theorem v_wh (h : WF b σ) (T : TR σ v) {i : Nat} (hi : (i : Int) < σ 2) (sz : Int32) (a : Nat → Int32) : ∃ a2, F_X8_writeHouse (I i) (I (σ 0)) (v.2 0) (v.2 1) (v.2 2) (v.2 4) sz a = some (I ((hlL σ i).length : Int), I ((hlL σ i).length : Int), a2) ∧ LSg (hlL σ i) a2 ∧ (hlL σ i).length ≤ 20 := by
  have hc := h.house hi
  have h10 := h.n
  have hs := slN_in σ i
  have tn : ∀ z : Int, 0 ≤ z → z ≤ 99 → (I z).toNatClampNeg = z.toNat := fun z h1 h2 => I_cl (by omega) (by omega)
  have ln : ∀ z : Int, (dgl z.toNat).length ≤ 2 := fun z => by rw [dgl_len]; exact (dn_in _).2
  have l1 : ∀ z : Int, z ≤ 9 → (dgl z.toNat).length = 1 := fun z hz => by rw [dgl_len]; unfold dn; rw [if_pos (by omega)]
  have L0 : LSg ([] : List Int32) a := ⟨fun z hz => (by cases hz), fun k hk => absurd hk (Nat.not_lt_zero _)⟩
  obtain ⟨x1, a1, a3⟩ := LS_num L0 (show (0 : Int) ≤ (i : Int) by omega) (show (i : Int) ≤ 99 by omega) (Or.inl (by decide))
  have n1 := l1 (i : Int) (by omega)
  obtain ⟨b1, b3⟩ := LS_put (z := 64) a3 (by rw [List.nil_append]; omega) ⟨64, by omega, by decide⟩
  have n2 : (([] ++ dgl (i : Int).toNat) ++ [(64 : Int32)]).length = 2 := by rw [List.length_append, List.nil_append, n1]; rfl
  obtain ⟨x3, c1, c3⟩ := LS_num b3 hc.1.1 (by omega) (Or.inl (by omega))
  have n3 := ln (σ (77 + 5 * i))
  have eA : lnA (I i) (I (σ (77 + 5 * i))) = ([] ++ dgl (i : Int).toNat) ++ [(64 : Int32)] ++ dgl (σ (77 + 5 * i)).toNat := by
    unfold lnA
    rw [tn _ (by omega) (by omega), tn _ hc.1.1 (by omega)]
    rfl
  unfold F_X8_writeHouse hlL mdL
  rw [show F_X8_putNumber (I (i : Int)) 0 a = _ from a1, bnd_some]
  dsimp only
  rw [b1, bnd_some, x_hcell h T.a0 hi, bnd_some]
  dsimp only
  rw [c1, bnd_some, x_sleepAt h T.a1 T.a2 hi, bnd_some]
  dsimp only
  rw [← eA] at c3 ⊢
  have nA : (lnA (I i) (I (σ (77 + 5 * i)))).length ≤ 4 := by
    rw [eA, List.length_append, n2]
    omega
  by_cases q : slN σ i ≤ 0
  · rw [brn_pos _ _ (by rw [lit_0, I_le (by omega) (by omega) (by omega) (by omega)]; exact q), if_pos q, show tB 3 = [] from rfl, List.append_nil]
    exact v_tail h T hi c3 (by omega) (v.2 0)
  · obtain ⟨d1, d3⟩ := LS_put (z := 32) c3 (by omega) ⟨32, by omega, by decide⟩
    have n4 : (lnA (I i) (I (σ (77 + 5 * i))) ++ [(32 : Int32)]).length ≤ 5 := by rw [List.length_append]; show _ + 1 ≤ 5; omega
    obtain ⟨x5, e1, e3⟩ := LS_num d3 hc.2.1.1 (by omega) (Or.inl (by omega))
    have n5 : (lnA (I i) (I (σ (77 + 5 * i))) ++ [(32 : Int32)] ++ dgl (σ (78 + 5 * i)).toNat).length ≤ 7 := by have := ln (σ (78 + 5 * i)); rw [List.length_append]; omega
    obtain ⟨f1, f3⟩ := LS_put (z := 45) e3 (by omega) ⟨45, by omega, by decide⟩
    have n6 : (lnA (I i) (I (σ (77 + 5 * i))) ++ [(32 : Int32)] ++ dgl (σ (78 + 5 * i)).toNat ++ [(45 : Int32)]).length ≤ 8 := by rw [List.length_append]; show _ + 1 ≤ 8; omega
    obtain ⟨x7, g1, g3⟩ := LS_num f3 hc.2.2.1.1 (by omega) (Or.inl (by omega))
    have n7 : (lnA (I i) (I (σ (77 + 5 * i))) ++ [(32 : Int32)] ++ dgl (σ (78 + 5 * i)).toNat ++ [(45 : Int32)] ++ dgl (σ (79 + 5 * i)).toNat).length ≤ 10 := by have := ln (σ (79 + 5 * i)); rw [List.length_append]; omega
    have eB : lnA (I i) (I (σ (77 + 5 * i))) ++ lnB (I (σ (78 + 5 * i))) (I (σ (79 + 5 * i))) = lnA (I i) (I (σ (77 + 5 * i))) ++ [(32 : Int32)] ++ dgl (σ (78 + 5 * i)).toNat ++ [(45 : Int32)] ++ dgl (σ (79 + 5 * i)).toNat := by
      unfold lnB
      rw [tn _ hc.2.1.1 (by omega), tn _ hc.2.2.1.1 (by omega), show tB 1 = [(32 : Int32)] from rfl, show tB 2 = [(45 : Int32)] from rfl, List.nil_append]
      simp only [List.append_assoc]
    rw [brn_neg _ _ (by rw [lit_0, I_le (by omega) (by omega) (by omega) (by omega)]; exact q), if_neg q, d1, bnd_some, x_from h T hi, bnd_some]
    dsimp only
    rw [e1, bnd_some]
    dsimp only
    rw [f1, bnd_some, x_to h T hi, bnd_some]
    dsimp only
    rw [g1, bnd_some, eB]
    dsimp only
    exact v_tail h T hi g3 (by omega) (v.2 0)
end LSH
