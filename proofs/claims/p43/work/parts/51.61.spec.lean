/-! ===== what a town is: one row of 147 numbers ===== -/
/-- numbers in their ranges; b: more than has been counted -/
def WF (b : Int) (σ : Nat → Int) : Prop :=
  (∀ k, InR (σ k)) ∧ (0 ≤ σ 0 ∧ σ 0 ≤ 23) ∧ (0 ≤ σ 2 ∧ σ 2 ≤ 10) ∧ (0 ≤ σ 3 ∧ σ 3 ≤ 4) ∧ (0 ≤ σ 4 ∧ σ 4 ≤ 4) ∧ (0 ≤ σ 8 ∧ σ 8 ≤ 10) ∧
  ((0 ≤ σ 1 ∧ σ 1 ≤ b) ∧ (0 ≤ σ 5 ∧ σ 5 ≤ b) ∧ (0 ≤ σ 6 ∧ σ 6 ≤ b) ∧ (0 ≤ σ 7 ∧ σ 7 ≤ b) ∧ (∀ k : Nat, k < 4 → 0 ≤ σ (9 + k) ∧ σ (9 + k) ≤ b) ∧ σ 9 + σ 10 + σ 11 + σ 12 = σ 5 + σ 6) ∧
  (∀ c : Nat, c < 64 → σ (13 + c) = 0 ∨ σ (13 + c) = 1) ∧
  ((∀ i : Nat, (i : Int) < σ 2 → (0 ≤ σ (77 + 5 * i) ∧ σ (77 + 5 * i) ≤ 63) ∧ (0 ≤ σ (78 + 5 * i) ∧ σ (78 + 5 * i) ≤ 23) ∧ (0 ≤ σ (79 + 5 * i) ∧ σ (79 + 5 * i) ≤ 23) ∧ (0 ≤ σ (80 + 5 * i) ∧ σ (80 + 5 * i) ≤ b) ∧ (0 ≤ σ (81 + 5 * i) ∧ σ (81 + 5 * i) ≤ b)) ∧
    ∀ i j : Nat, (i : Int) < σ 2 → (j : Int) < σ 2 → σ (77 + 5 * i) = σ (77 + 5 * j) → i = j) ∧
  ((∀ j : Nat, (j : Int) < σ 3 → (0 ≤ σ (127 + 3 * j) ∧ σ (127 + 3 * j) ≤ 7) ∧ 0 ≤ σ (128 + 3 * j) ∧ σ (128 + 3 * j) ≤ σ (129 + 3 * j) ∧ σ (129 + 3 * j) ≤ 7) ∧
    ∀ i j : Nat, (i : Int) < σ 3 → (j : Int) < σ 3 → i ≠ j → σ (127 + 3 * i) = σ (127 + 3 * j) → σ (129 + 3 * i) < σ (128 + 3 * j) ∨ σ (129 + 3 * j) < σ (128 + 3 * i)) ∧
  ((∀ j : Nat, (j : Int) < σ 4 → (0 ≤ σ (139 + 2 * j) ∧ σ (139 + 2 * j) ≤ 63) ∧ -1 ≤ σ (140 + 2 * j) ∧ σ (140 + 2 * j) ≤ 14) ∧
    ∀ i j : Nat, (i : Int) < σ 4 → (j : Int) < σ 4 → σ (139 + 2 * i) = σ (139 + 2 * j) → i = j)
section WFA
variable {b : Int} {σ : Nat → Int}
theorem WF.r (h : WF b σ) (k : Nat) : InR (σ k) := h.1 k
theorem WF.hour (h : WF b σ) : 0 ≤ σ 0 ∧ σ 0 ≤ 23 := h.2.1
theorem WF.n (h : WF b σ) : 0 ≤ σ 2 ∧ σ 2 ≤ 10 := h.2.2.1
theorem WF.m (h : WF b σ) : 0 ≤ σ 3 ∧ σ 3 ≤ 4 := h.2.2.2.1
theorem WF.q (h : WF b σ) : 0 ≤ σ 4 ∧ σ 4 ≤ 4 := h.2.2.2.2.1
theorem WF.look (h : WF b σ) : 0 ≤ σ 8 ∧ σ 8 ≤ 10 := h.2.2.2.2.2.1
theorem WF.sums (h : WF b σ) : (0 ≤ σ 1 ∧ σ 1 ≤ b) ∧ (0 ≤ σ 5 ∧ σ 5 ≤ b) ∧ (0 ≤ σ 6 ∧ σ 6 ≤ b) ∧ (0 ≤ σ 7 ∧ σ 7 ≤ b) ∧ (∀ k : Nat, k < 4 → 0 ≤ σ (9 + k) ∧ σ (9 + k) ≤ b) ∧ σ 9 + σ 10 + σ 11 + σ 12 = σ 5 + σ 6 := h.2.2.2.2.2.2.1
theorem WF.blk (h : WF b σ) {c : Nat} (hc : c < 64) : σ (13 + c) = 0 ∨ σ (13 + c) = 1 := h.2.2.2.2.2.2.2.1 c hc
theorem WF.house (h : WF b σ) {i : Nat} (hi : (i : Int) < σ 2) : (0 ≤ σ (77 + 5 * i) ∧ σ (77 + 5 * i) ≤ 63) ∧ (0 ≤ σ (78 + 5 * i) ∧ σ (78 + 5 * i) ≤ 23) ∧ (0 ≤ σ (79 + 5 * i) ∧ σ (79 + 5 * i) ≤ 23) ∧ (0 ≤ σ (80 + 5 * i) ∧ σ (80 + 5 * i) ≤ b) ∧ (0 ≤ σ (81 + 5 * i) ∧ σ (81 + 5 * i) ≤ b) := h.2.2.2.2.2.2.2.2.1.1 i hi
theorem WF.one (h : WF b σ) {i j : Nat} (hi : (i : Int) < σ 2) (hj : (j : Int) < σ 2) (e : σ (77 + 5 * i) = σ (77 + 5 * j)) : i = j := h.2.2.2.2.2.2.2.2.1.2 i j hi hj e
theorem WF.hall (h : WF b σ) {j : Nat} (hj : (j : Int) < σ 3) : (0 ≤ σ (127 + 3 * j) ∧ σ (127 + 3 * j) ≤ 7) ∧ 0 ≤ σ (128 + 3 * j) ∧ σ (128 + 3 * j) ≤ σ (129 + 3 * j) ∧ σ (129 + 3 * j) ≤ 7 := h.2.2.2.2.2.2.2.2.2.1.1 j hj
theorem WF.apart (h : WF b σ) {i j : Nat} (hi : (i : Int) < σ 3) (hj : (j : Int) < σ 3) (n : i ≠ j) (e : σ (127 + 3 * i) = σ (127 + 3 * j)) : σ (129 + 3 * i) < σ (128 + 3 * j) ∨ σ (129 + 3 * j) < σ (128 + 3 * i) := h.2.2.2.2.2.2.2.2.2.1.2 i j hi hj n e
theorem WF.post (h : WF b σ) {j : Nat} (hj : (j : Int) < σ 4) : (0 ≤ σ (139 + 2 * j) ∧ σ (139 + 2 * j) ≤ 63) ∧ -1 ≤ σ (140 + 2 * j) ∧ σ (140 + 2 * j) ≤ 14 := h.2.2.2.2.2.2.2.2.2.2.1 j hj
theorem WF.oneP (h : WF b σ) {i j : Nat} (hi : (i : Int) < σ 4) (hj : (j : Int) < σ 4) (e : σ (139 + 2 * i) = σ (139 + 2 * j)) : i = j := h.2.2.2.2.2.2.2.2.2.2.2 i j hi hj e
end WFA
/-- a town's values are this row's -/
def TR (σ : Nat → Int) (v : TVal) : Prop :=
  (v.1 0 = I (σ 0) ∧ v.1 1 = I (σ 1) ∧ v.1 2 = I (σ 8 - 1) ∧ v.1 3 = I (σ 5) ∧ v.1 4 = I (σ 6) ∧ v.1 5 = I (σ 7) ∧ v.1 6 = I (σ 2) ∧ v.1 7 = I (σ 3) ∧ v.1 8 = I (σ 4)) ∧
  (∀ i : Nat, (i : Int) < σ 2 → v.2 0 i = I (σ (77 + 5 * i)) ∧ v.2 1 i = I (σ (78 + 5 * i)) ∧ v.2 2 i = I (σ (79 + 5 * i)) ∧ v.2 3 i = I (σ (80 + 5 * i)) ∧ v.2 4 i = I (σ (81 + 5 * i))) ∧
  (∀ j : Nat, (j : Int) < σ 3 → v.2 5 j = I (σ (127 + 3 * j)) ∧ v.2 6 j = I (σ (128 + 3 * j)) ∧ v.2 7 j = I (σ (129 + 3 * j))) ∧
  (∀ j : Nat, (j : Int) < σ 4 → v.2 8 j = I (σ (139 + 2 * j)) ∧ v.2 9 j = I (σ (140 + 2 * j))) ∧
  (∀ c : Nat, c < 64 → v.2 10 c = I (σ (13 + c))) ∧ (∀ k : Nat, k < 4 → v.2 11 k = I (σ (9 + k)))
/-! ===== what is told of it ===== -/
def absI (z : Int) : Int := if 0 ≤ z then z else 0 - z
/-- the column of a cell; what is left of a division -/
def md (z d : Int) : Int := z - z / d * d
def blkB (σ : Nat → Int) (c : Int) : Bool := decide (σ (13 + c.toNat) = 1)
def hOn (σ : Nat → Int) (c : Int) : Int := lIx (fun i => decide (σ (77 + 5 * i) = c)) (σ 2).toNat 0 (-1)
def pOn (σ : Nat → Int) (c : Int) : Int := lIx (fun j => decide (σ (139 + 2 * j) = c)) (σ 4).toNat 0 (-1)
def inL (σ : Nat → Int) (c : Int) (j : Nat) : Bool := decide (c / 8 = σ (127 + 3 * j)) && (decide (σ (128 + 3 * j) ≤ md c 8) && decide (md c 8 ≤ σ (129 + 3 * j)))
def lOn (σ : Nat → Int) (c : Int) : Int := lIx (inL σ c) (σ 3).toNat 0 (-1)
def far (c d : Int) : Int := absI (c / 8 - d / 8) + absI (md c 8 - md d 8)
def slN (σ : Nat → Int) (i : Nat) : Int := md (σ (79 + 5 * i) - σ (78 + 5 * i) + 24) 24
def slB (σ : Nat → Int) (i : Nat) (h : Int) : Bool := decide (md (h - σ (78 + 5 * i) + 24) 24 < slN σ i)
def slC (σ : Nat → Int) (h : Int) : Int := cnt (fun i => slB σ i h) (σ 2).toNat 0
def kd (σ : Nat → Int) (i : Nat) (h a b : Int) : Int := if b = 0 ∧ a < 3 then (if slB σ i h then 3 else a - 1) else if a = 0 ∧ 2 < b then 2 else 3
def inH (σ : Nat → Int) (i j : Nat) : Bool := decide (i ≠ j) && (decide (0 ≤ lOn σ (σ (77 + 5 * i))) && decide (lOn σ (σ (77 + 5 * j)) = lOn σ (σ (77 + 5 * i))))
def shA (σ : Nat → Int) (i j : Nat) (a : Int) : Int := if 0 < a - far (σ (77 + 5 * i)) (σ (77 + 5 * j)) then a - far (σ (77 + 5 * i)) (σ (77 + 5 * j)) else 0
def ecB (σ : Nat → Int) (i j : Nat) (a b : Int) : Bool := inH σ i j && decide (0 < shA σ i j a + b)
def agB (σ : Nat → Int) (c : Int) (j : Nat) : Bool := decide (σ (140 + 2 * j) < 0) || decide (far c (σ (139 + 2 * j)) = σ (140 + 2 * j))
def canB (σ : Nat → Int) (c : Int) : Bool := !blkB σ c && allB (agB σ c) (σ 4).toNat 0
def canN (σ : Nat → Int) : Int := cnt (fun c => canB σ c) 64 0
theorem md_in {z d : Int} (h : 0 < d) : 0 ≤ md z d ∧ md z d < d := by
  have h1 := Int.emod_nonneg z (show d ≠ 0 by omega)
  have h2 := Int.emod_lt_of_pos z h
  have h3 := Int.emod_def z d
  have h4 := Int.mul_comm d (z / d)
  unfold md
  omega
theorem far_in {c d : Int} (h1 : 0 ≤ c) (h2 : c ≤ 63) (h3 : 0 ≤ d) (h4 : d ≤ 63) : 0 ≤ far c d ∧ far c d ≤ 14 := by
  have a1 := md_in (z := c) (d := 8) (by omega)
  have a2 := md_in (z := d) (d := 8) (by omega)
  unfold far absI
  split <;> split <;> omega
theorem far_sym (c d : Int) : far c d = far d c := by
  unfold far absI
  split <;> split <;> split <;> split <;> omega
theorem lOn_in {b : Int} {σ : Nat → Int} (h : WF b σ) (c : Int) : -1 ≤ lOn σ c ∧ lOn σ c < σ 3 := by
  have := h.m
  rcases lIx_sp (inL σ c) (σ 3).toNat 0 (-1) with ⟨h1, -⟩ | ⟨i, h1, h2, h3, h4⟩
  · unfold lOn; rw [h1]; omega
  · unfold lOn; rw [h4]; omega
theorem hOn_in {b : Int} {σ : Nat → Int} (h : WF b σ) (c : Int) : -1 ≤ hOn σ c ∧ hOn σ c < σ 2 := by
  have := h.n
  rcases lIx_sp (fun i => decide (σ (77 + 5 * i) = c)) (σ 2).toNat 0 (-1) with ⟨h1, -⟩ | ⟨i, h1, h2, h3, h4⟩
  · unfold hOn; rw [h1]; omega
  · unfold hOn; rw [h4]; omega
theorem pOn_in {b : Int} {σ : Nat → Int} (h : WF b σ) (c : Int) : -1 ≤ pOn σ c ∧ pOn σ c < σ 4 := by
  have := h.q
  rcases lIx_sp (fun j => decide (σ (139 + 2 * j) = c)) (σ 4).toNat 0 (-1) with ⟨h1, -⟩ | ⟨i, h1, h2, h3, h4⟩
  · unfold pOn; rw [h1]; omega
  · unfold pOn; rw [h4]; omega
theorem slN_in (σ : Nat → Int) (i : Nat) : 0 ≤ slN σ i ∧ slN σ i < 24 := md_in (by omega)
theorem slC_in {b : Int} {σ : Nat → Int} (h : WF b σ) (t : Int) : 0 ≤ slC σ t ∧ slC σ t ≤ σ 2 := by
  have := cnt_in (fun i => slB σ i t) (σ 2).toNat 0
  have := h.n
  unfold slC
  omega
theorem kd_in {σ : Nat → Int} {i : Nat} {h a b : Int} (h1 : 0 ≤ a) (h2 : 0 ≤ b) (h3 : 0 < a + b) : 0 ≤ kd σ i h a b ∧ kd σ i h a b ≤ 3 := by
  unfold kd
  split <;> split <;> omega
theorem shA_in {b : Int} {σ : Nat → Int} (h : WF b σ) {i j : Nat} (hi : (i : Int) < σ 2) (hj : (j : Int) < σ 2) {a : Int} (h1 : 0 ≤ a) : 0 ≤ shA σ i j a ∧ shA σ i j a ≤ a := by
  have a1 := h.house hi
  have a2 := h.house hj
  have a3 := far_in a1.1.1 a1.1.2 a2.1.1 a2.1.2
  unfold shA
  split <;> omega
theorem canN_in (σ : Nat → Int) : 0 ≤ canN σ ∧ canN σ ≤ 64 := cnt_in _ _ _
/-! ===== the reference: what its small methods answer ===== -/
theorem I_ite (c : Prop) [Decidable c] (a b : Int) : (if c then I a else I b) = I (if c then a else b) := by split <;> rfl
theorem tn_h (i : Nat) : (77 + 5 * (i : Int)).toNat = 77 + 5 * i ∧ (77 + 5 * (i : Int) + 1).toNat = 78 + 5 * i ∧ (77 + 5 * (i : Int) + 2).toNat = 79 + 5 * i ∧ (77 + 5 * (i : Int) + 3).toNat = 80 + 5 * i ∧ (77 + 5 * (i : Int) + 4).toNat = 81 + 5 * i := by omega
theorem tn_l (j : Nat) : (127 + 3 * (j : Int)).toNat = 127 + 3 * j ∧ (127 + 3 * (j : Int) + 1).toNat = 128 + 3 * j ∧ (127 + 3 * (j : Int) + 2).toNat = 129 + 3 * j := by omega
theorem tn_p (j : Nat) : (139 + 2 * (j : Int)).toNat = 139 + 2 * j ∧ (139 + 2 * (j : Int) + 1).toNat = 140 + 2 * j := by omega
theorem tn_c {c : Int} (h : 0 ≤ c) : (13 + c).toNat = 13 + c.toNat := by omega
theorem tn_0 : (0 : Int).toNat = 0 ∧ (1 : Int).toNat = 1 ∧ (2 : Int).toNat = 2 ∧ (3 : Int).toNat = 3 ∧ (4 : Int).toNat = 4 ∧ (5 : Int).toNat = 5 ∧ (6 : Int).toNat = 6 ∧ (7 : Int).toNat = 7 ∧ (8 : Int).toNat = 8 := by decide
theorem m_in {a b c : Int} (ha : InR a) (hb : InR b) (hc : InR c) : F_X12_in (I a) (I b) (I c) = some (bI (decide (b ≤ a ∧ a ≤ c))) := by
  unfold F_X12_in
  by_cases h1 : b ≤ a <;> by_cases h2 : a ≤ c
  all_goals simp (disch := omega) only [brn_if, grd_if, ↓bnd_some, bnd_some, bnd_if, bnd_none, J_at, I_add, I_sub, I_mul, I_neg, lit_0, lit_1, lit_2, lit_3, lit_4, lit_5, lit_6, lit_7, lit_8, lit_9, lit_10, lit_11, lit_12, lit_13, lit_14, lit_20, lit_23, lit_24, lit_32, lit_33, lit_35, lit_40, lit_43, lit_45, lit_46, lit_47, lit_48, lit_49, lit_50, lit_57, lit_58, lit_59, lit_60, lit_61, lit_63, lit_64, lit_77, lit_95, lit_98, lit_99, lit_101, lit_104, lit_111, lit_112, lit_114, lit_116, lit_122, lit_127, lit_139, lit_147, lit_180, lit_255, lit_1000, lit_1029, I_lt, I_le, I_eq, I_cl, I_inb, if_pos, if_neg, eq_self, ite_true, ite_false, Int.zero_add, Int.add_zero]
  all_goals first | (rw [decide_eq_true ⟨h1, h2⟩]; rfl) | (rw [decide_eq_false (fun h => h1 h.1)]; rfl) | (rw [decide_eq_false (fun h => h2 h.2)]; rfl)
theorem m_isCell {a : Int} (ha : InR a) : F_X12_isCell (I a) = some (bI (decide (0 ≤ a ∧ a ≤ 63))) := by
  unfold F_X12_isCell
  rw [lit_0, lit_63, m_in ha (by omega) (by omega), bnd_some, grd_pos]
  rw [← lit_0, bI_z]; trivial
theorem m_isHour {a : Int} (ha : InR a) : F_X12_isHour (I a) = some (bI (decide (0 ≤ a ∧ a ≤ 23))) := by
  unfold F_X12_isHour
  rw [lit_0, lit_23, m_in ha (by omega) (by omega), bnd_some, grd_pos]
  rw [← lit_0, bI_z]; trivial
section ML1
variable {b : Int} {σ : Nat → Int}
theorem m_isHouse (h : WF b σ) {a : Int} (ha : InR a) : F_X12_isHouse (I a) (J σ) = some (bI (decide (0 ≤ a ∧ a < σ 2))) := by
  have hn := h.n
  unfold F_X12_isHouse
  simp (disch := omega) only [brn_if, grd_if, ↓bnd_some, bnd_some, bnd_if, bnd_none, J_at, I_add, I_sub, I_mul, I_neg, lit_0, lit_1, lit_2, lit_3, lit_4, lit_5, lit_6, lit_7, lit_8, lit_9, lit_10, lit_11, lit_12, lit_13, lit_14, lit_20, lit_23, lit_24, lit_32, lit_33, lit_35, lit_40, lit_43, lit_45, lit_46, lit_47, lit_48, lit_49, lit_50, lit_57, lit_58, lit_59, lit_60, lit_61, lit_63, lit_64, lit_77, lit_95, lit_98, lit_99, lit_101, lit_104, lit_111, lit_112, lit_114, lit_116, lit_122, lit_127, lit_139, lit_147, lit_180, lit_255, lit_1000, lit_1029, I_lt, I_le, I_eq, I_cl, I_inb, if_pos, if_neg, eq_self, ite_true, ite_false, Int.zero_add, Int.add_zero, tn_0]
  rw [m_in ha (by omega) (by omega), bnd_some, if_pos (by rw [← lit_0, ← lit_1, bI_z]; trivial)]
  congr 2
  exact decide_eq_decide.mpr ⟨fun q => ⟨q.1, by omega⟩, fun q => ⟨q.1, by omega⟩⟩
theorem m_isPost (h : WF b σ) {a : Int} (ha : InR a) : F_X12_isPost (I a) (J σ) = some (bI (decide (0 ≤ a ∧ a < σ 4))) := by
  have hn := h.q
  unfold F_X12_isPost
  simp (disch := omega) only [brn_if, grd_if, ↓bnd_some, bnd_some, bnd_if, bnd_none, J_at, I_add, I_sub, I_mul, I_neg, lit_0, lit_1, lit_2, lit_3, lit_4, lit_5, lit_6, lit_7, lit_8, lit_9, lit_10, lit_11, lit_12, lit_13, lit_14, lit_20, lit_23, lit_24, lit_32, lit_33, lit_35, lit_40, lit_43, lit_45, lit_46, lit_47, lit_48, lit_49, lit_50, lit_57, lit_58, lit_59, lit_60, lit_61, lit_63, lit_64, lit_77, lit_95, lit_98, lit_99, lit_101, lit_104, lit_111, lit_112, lit_114, lit_116, lit_122, lit_127, lit_139, lit_147, lit_180, lit_255, lit_1000, lit_1029, I_lt, I_le, I_eq, I_cl, I_inb, if_pos, if_neg, eq_self, ite_true, ite_false, Int.zero_add, Int.add_zero, tn_0]
  rw [m_in ha (by omega) (by omega), bnd_some, if_pos (by rw [← lit_0, ← lit_1, bI_z]; trivial)]
  congr 2
  exact decide_eq_decide.mpr ⟨fun q => ⟨q.1, by omega⟩, fun q => ⟨q.1, by omega⟩⟩
theorem m_isBlocked (h : WF b σ) {c : Int} (h1 : 0 ≤ c) (h2 : c ≤ 63) : F_X12_isBlocked (I c) (J σ) = some (bI (blkB σ c)) := by
  have hr := h.r (13 + c.toNat)
  unfold F_X12_isBlocked
  simp (disch := omega) only [brn_if, grd_if, ↓bnd_some, bnd_some, bnd_if, bnd_none, J_at, I_add, I_sub, I_mul, I_neg, lit_0, lit_1, lit_2, lit_3, lit_4, lit_5, lit_6, lit_7, lit_8, lit_9, lit_10, lit_11, lit_12, lit_13, lit_14, lit_20, lit_23, lit_24, lit_32, lit_33, lit_35, lit_40, lit_43, lit_45, lit_46, lit_47, lit_48, lit_49, lit_50, lit_57, lit_58, lit_59, lit_60, lit_61, lit_63, lit_64, lit_77, lit_95, lit_98, lit_99, lit_101, lit_104, lit_111, lit_112, lit_114, lit_116, lit_122, lit_127, lit_139, lit_147, lit_180, lit_255, lit_1000, lit_1029, I_lt, I_le, I_eq, I_cl, I_inb, if_pos, if_neg, eq_self, ite_true, ite_false, Int.zero_add, Int.add_zero, tn_c h1]
  simp only [← lit_0, ← lit_1]
  exact bI_ite _
theorem m_cellOf (h : WF b σ) {i : Nat} (hi : (i : Int) < σ 2) : F_X12_cellOf (I i) (J σ) = some (I (σ (77 + 5 * i))) := by
  have hn := h.n
  unfold F_X12_cellOf F_X12_at
  simp (disch := omega) only [brn_if, grd_if, ↓bnd_some, bnd_some, bnd_if, bnd_none, J_at, I_add, I_sub, I_mul, I_neg, lit_0, lit_1, lit_2, lit_3, lit_4, lit_5, lit_6, lit_7, lit_8, lit_9, lit_10, lit_11, lit_12, lit_13, lit_14, lit_20, lit_23, lit_24, lit_32, lit_33, lit_35, lit_40, lit_43, lit_45, lit_46, lit_47, lit_48, lit_49, lit_50, lit_57, lit_58, lit_59, lit_60, lit_61, lit_63, lit_64, lit_77, lit_95, lit_98, lit_99, lit_101, lit_104, lit_111, lit_112, lit_114, lit_116, lit_122, lit_127, lit_139, lit_147, lit_180, lit_255, lit_1000, lit_1029, I_lt, I_le, I_eq, I_cl, I_inb, if_pos, if_neg, eq_self, ite_true, ite_false, Int.zero_add, Int.add_zero, tn_h i]
theorem m_houseOn (h : WF b σ) {c : Int} (hc : InR c) : F_X12_houseOn (I c) (J σ) = some (I (hOn σ c)) := by
  have hn := h.n
  have go : ∀ (r k f : Nat) (a : Int), (k : Int) + r = σ 2 → r < f → L_X12_houseOn_4 (I c) (J σ) f (I a) (I k) = some (I (lIx (fun i => decide (σ (77 + 5 * i) = c)) r k a)) := by
    intro r
    induction r with
    | zero =>
      intro k f a hk hf
      obtain ⟨f, rfl⟩ : ∃ g, f = g + 1 := ⟨f - 1, by omega⟩
      rw [L_X12_houseOn_4]
      simp (disch := omega) only [brn_if, grd_if, ↓bnd_some, bnd_some, bnd_if, bnd_none, J_at, I_add, I_sub, I_mul, I_neg, lit_0, lit_1, lit_2, lit_3, lit_4, lit_5, lit_6, lit_7, lit_8, lit_9, lit_10, lit_11, lit_12, lit_13, lit_14, lit_20, lit_23, lit_24, lit_32, lit_33, lit_35, lit_40, lit_43, lit_45, lit_46, lit_47, lit_48, lit_49, lit_50, lit_57, lit_58, lit_59, lit_60, lit_61, lit_63, lit_64, lit_77, lit_95, lit_98, lit_99, lit_101, lit_104, lit_111, lit_112, lit_114, lit_116, lit_122, lit_127, lit_139, lit_147, lit_180, lit_255, lit_1000, lit_1029, I_lt, I_le, I_eq, I_cl, I_inb, if_pos, if_neg, eq_self, ite_true, ite_false, Int.zero_add, Int.add_zero, tn_0]
      rfl
    | succ r ih =>
      intro k f a hk hf
      obtain ⟨f, rfl⟩ : ∃ g, f = g + 1 := ⟨f - 1, by omega⟩
      have hh := h.house (i := k) (by omega)
      rw [L_X12_houseOn_4, lIx]
      simp (disch := omega) only [brn_if, grd_if, ↓bnd_some, bnd_some, bnd_if, bnd_none, J_at, I_add, I_sub, I_mul, I_neg, lit_0, lit_1, lit_2, lit_3, lit_4, lit_5, lit_6, lit_7, lit_8, lit_9, lit_10, lit_11, lit_12, lit_13, lit_14, lit_20, lit_23, lit_24, lit_32, lit_33, lit_35, lit_40, lit_43, lit_45, lit_46, lit_47, lit_48, lit_49, lit_50, lit_57, lit_58, lit_59, lit_60, lit_61, lit_63, lit_64, lit_77, lit_95, lit_98, lit_99, lit_101, lit_104, lit_111, lit_112, lit_114, lit_116, lit_122, lit_127, lit_139, lit_147, lit_180, lit_255, lit_1000, lit_1029, I_lt, I_le, I_eq, I_cl, I_inb, if_pos, if_neg, eq_self, ite_true, ite_false, Int.zero_add, Int.add_zero, tn_0]
      rw [m_cellOf h (by omega)]
      unfold J_X12_houseOn_28
      by_cases e : σ (77 + 5 * k) = c
      · simp (disch := omega) only [brn_if, grd_if, ↓bnd_some, bnd_some, bnd_if, bnd_none, J_at, I_add, I_sub, I_mul, I_neg, lit_0, lit_1, lit_2, lit_3, lit_4, lit_5, lit_6, lit_7, lit_8, lit_9, lit_10, lit_11, lit_12, lit_13, lit_14, lit_20, lit_23, lit_24, lit_32, lit_33, lit_35, lit_40, lit_43, lit_45, lit_46, lit_47, lit_48, lit_49, lit_50, lit_57, lit_58, lit_59, lit_60, lit_61, lit_63, lit_64, lit_77, lit_95, lit_98, lit_99, lit_101, lit_104, lit_111, lit_112, lit_114, lit_116, lit_122, lit_127, lit_139, lit_147, lit_180, lit_255, lit_1000, lit_1029, I_lt, I_le, I_eq, I_cl, I_inb, if_pos, if_neg, eq_self, ite_true, ite_false, Int.zero_add, Int.add_zero, decide_eq_true_eq]
        exact ih (k + 1) f k (by omega) (by omega)
      · simp (disch := omega) only [brn_if, grd_if, ↓bnd_some, bnd_some, bnd_if, bnd_none, J_at, I_add, I_sub, I_mul, I_neg, lit_0, lit_1, lit_2, lit_3, lit_4, lit_5, lit_6, lit_7, lit_8, lit_9, lit_10, lit_11, lit_12, lit_13, lit_14, lit_20, lit_23, lit_24, lit_32, lit_33, lit_35, lit_40, lit_43, lit_45, lit_46, lit_47, lit_48, lit_49, lit_50, lit_57, lit_58, lit_59, lit_60, lit_61, lit_63, lit_64, lit_77, lit_95, lit_98, lit_99, lit_101, lit_104, lit_111, lit_112, lit_114, lit_116, lit_122, lit_127, lit_139, lit_147, lit_180, lit_255, lit_1000, lit_1029, I_lt, I_le, I_eq, I_cl, I_inb, if_pos, if_neg, eq_self, ite_true, ite_false, Int.zero_add, Int.add_zero, decide_eq_true_eq]
        exact ih (k + 1) f a (by omega) (by omega)
  have := go (σ 2).toNat 0 100 (-1) (by omega) (by omega)
  unfold F_X12_houseOn
  rw [lit_1, lit_0, I_neg]
  exact this
theorem m_postOn (h : WF b σ) {c : Int} (hc : InR c) : F_X12_postOn (I c) (J σ) = some (I (pOn σ c)) := by
  have hn := h.q
  have go : ∀ (r k f : Nat) (a : Int), (k : Int) + r = σ 4 → r < f → L_X12_postOn_4 (I c) (J σ) f (I a) (I k) = some (I (lIx (fun j => decide (σ (139 + 2 * j) = c)) r k a)) := by
    intro r
    induction r with
    | zero =>
      intro k f a hk hf
      obtain ⟨f, rfl⟩ : ∃ g, f = g + 1 := ⟨f - 1, by omega⟩
      rw [L_X12_postOn_4]
      simp (disch := omega) only [brn_if, grd_if, ↓bnd_some, bnd_some, bnd_if, bnd_none, J_at, I_add, I_sub, I_mul, I_neg, lit_0, lit_1, lit_2, lit_3, lit_4, lit_5, lit_6, lit_7, lit_8, lit_9, lit_10, lit_11, lit_12, lit_13, lit_14, lit_20, lit_23, lit_24, lit_32, lit_33, lit_35, lit_40, lit_43, lit_45, lit_46, lit_47, lit_48, lit_49, lit_50, lit_57, lit_58, lit_59, lit_60, lit_61, lit_63, lit_64, lit_77, lit_95, lit_98, lit_99, lit_101, lit_104, lit_111, lit_112, lit_114, lit_116, lit_122, lit_127, lit_139, lit_147, lit_180, lit_255, lit_1000, lit_1029, I_lt, I_le, I_eq, I_cl, I_inb, if_pos, if_neg, eq_self, ite_true, ite_false, Int.zero_add, Int.add_zero, tn_0]
      rfl
    | succ r ih =>
      intro k f a hk hf
      obtain ⟨f, rfl⟩ : ∃ g, f = g + 1 := ⟨f - 1, by omega⟩
      have hh := h.post (j := k) (by omega)
      rw [L_X12_postOn_4, lIx]
      unfold J_X12_postOn_35
      by_cases e : σ (139 + 2 * k) = c
      · simp (disch := omega) only [brn_if, grd_if, ↓bnd_some, bnd_some, bnd_if, bnd_none, J_at, I_add, I_sub, I_mul, I_neg, lit_0, lit_1, lit_2, lit_3, lit_4, lit_5, lit_6, lit_7, lit_8, lit_9, lit_10, lit_11, lit_12, lit_13, lit_14, lit_20, lit_23, lit_24, lit_32, lit_33, lit_35, lit_40, lit_43, lit_45, lit_46, lit_47, lit_48, lit_49, lit_50, lit_57, lit_58, lit_59, lit_60, lit_61, lit_63, lit_64, lit_77, lit_95, lit_98, lit_99, lit_101, lit_104, lit_111, lit_112, lit_114, lit_116, lit_122, lit_127, lit_139, lit_147, lit_180, lit_255, lit_1000, lit_1029, I_lt, I_le, I_eq, I_cl, I_inb, if_pos, if_neg, eq_self, ite_true, ite_false, Int.zero_add, Int.add_zero, tn_0, tn_p k, decide_eq_true_eq]
        exact ih (k + 1) f k (by omega) (by omega)
      · simp (disch := omega) only [brn_if, grd_if, ↓bnd_some, bnd_some, bnd_if, bnd_none, J_at, I_add, I_sub, I_mul, I_neg, lit_0, lit_1, lit_2, lit_3, lit_4, lit_5, lit_6, lit_7, lit_8, lit_9, lit_10, lit_11, lit_12, lit_13, lit_14, lit_20, lit_23, lit_24, lit_32, lit_33, lit_35, lit_40, lit_43, lit_45, lit_46, lit_47, lit_48, lit_49, lit_50, lit_57, lit_58, lit_59, lit_60, lit_61, lit_63, lit_64, lit_77, lit_95, lit_98, lit_99, lit_101, lit_104, lit_111, lit_112, lit_114, lit_116, lit_122, lit_127, lit_139, lit_147, lit_180, lit_255, lit_1000, lit_1029, I_lt, I_le, I_eq, I_cl, I_inb, if_pos, if_neg, eq_self, ite_true, ite_false, Int.zero_add, Int.add_zero, tn_0, tn_p k, decide_eq_true_eq]
        exact ih (k + 1) f a (by omega) (by omega)
  have := go (σ 4).toNat 0 100 (-1) (by omega) (by omega)
  unfold F_X12_postOn
  rw [lit_1, lit_0, I_neg]
  exact this
theorem m_far {c d : Int} (h1 : 0 ≤ c) (h2 : c ≤ 63) (h3 : 0 ≤ d) (h4 : d ≤ 63) : F_X12_far (I c) (I d) = some (I (far c d)) := by
  have a1 := md_in (z := c) (d := 8) (by omega)
  have a2 := md_in (z := d) (d := 8) (by omega)
  unfold md at a1 a2
  unfold F_X12_far
  rw [lit_8, I_div h1 (by omega) (by omega) (by omega), I_div h3 (by omega) (by omega) (by omega)]
  simp (disch := omega) only [I_add, I_sub, I_mul, I_neg, lit_0, lit_1, lit_2, lit_3, lit_4, lit_5, lit_6, lit_7, lit_8, lit_9, lit_10, lit_11, lit_12, lit_13, lit_14, lit_20, lit_23, lit_24, lit_32, lit_33, lit_35, lit_40, lit_43, lit_45, lit_46, lit_47, lit_48, lit_49, lit_50, lit_57, lit_58, lit_59, lit_60, lit_61, lit_63, lit_64, lit_77, lit_95, lit_98, lit_99, lit_101, lit_104, lit_111, lit_112, lit_114, lit_116, lit_122, lit_127, lit_139, lit_147, lit_180, lit_255, lit_1000, lit_1029, I_le, I_ite]
  rfl
end ML1
