/-! ===== ways: what they are ===== -/
/-- E tells the fewest steps from s: -1 where no way leads -/
def WY (blk : Nat → Bool) (s : Nat) (E : Nat → Int) : Prop :=
  E s = 0 ∧ (∀ c : Nat, c < 64 → -1 ≤ E c) ∧ (∀ c : Nat, c < 64 → E c = 0 → c = s) ∧
  (∀ c : Nat, c < 64 → 0 < E c → blk c = false ∧ ∃ d : Nat, d < 64 ∧ far d c = 1 ∧ E d = E c - 1) ∧
  (∀ d : Nat, d < 64 → 0 ≤ E d → ∀ c : Nat, c < 64 → far d c = 1 → blk c = false → 0 ≤ E c ∧ E c ≤ E d + 1)
section WYS
variable {blk : Nat → Bool} {s : Nat} {E F : Nat → Int}
theorem WY_le (hE : WY blk s E) (hF : WY blk s F) : ∀ (k : Nat) (c : Nat), c < 64 → E c = k → 0 ≤ F c ∧ F c ≤ k := by
  intro k
  induction k with
  | zero =>
    intro c hc h
    have := hE.2.2.1 c hc h
    rw [this, hF.1]
    omega
  | succ k ih =>
    intro c hc h
    obtain ⟨h1, d, h2, h3, h4⟩ := hE.2.2.2.1 c hc (by omega)
    have a := ih d h2 (by omega)
    have := hF.2.2.2.2 d h2 a.1 c hc h3 h1
    omega
theorem WY_eq (hE : WY blk s E) (hF : WY blk s F) {c : Nat} (hc : c < 64) : E c = F c := by
  have e1 := hE.2.1 c hc
  have f1 := hF.2.1 c hc
  by_cases h : 0 ≤ E c
  · have a := WY_le hE hF (E c).toNat c hc (by omega)
    have a2 := WY_le hF hE (F c).toNat c hc (by omega)
    omega
  · by_cases h2 : 0 ≤ F c
    · have a2 := WY_le hF hE (F c).toNat c hc (by omega)
      omega
    · omega
theorem WY_down (hs : s < 64) (hE : WY blk s E) : ∀ (k c : Nat), c < 64 → E c = k → ∀ i : Nat, i ≤ k → ∃ d : Nat, d < 64 ∧ E d = i := by
  intro k
  induction k with
  | zero =>
    intro c hc h i hi
    exact ⟨c, hc, by omega⟩
  | succ k ih =>
    intro c hc h i hi
    by_cases e : i = k + 1
    · exact ⟨c, hc, by omega⟩
    · obtain ⟨-, d, h2, -, h4⟩ := hE.2.2.2.1 c hc (by omega)
      exact ih d h2 (by omega) i (by omega)
/-- 64 cells: no way has more than 63 steps -/
theorem steps63 {G : Nat → Int} (h : ∀ i : Nat, i ≤ 64 → ∃ d : Nat, d < 64 ∧ G d = i) : False := by
  obtain ⟨f, hf⟩ : ∃ f : Nat → Nat, ∀ i, i ≤ 64 → f i < 64 ∧ G (f i) = i := by
    refine ⟨fun i => if hi : i ≤ 64 then Classical.choose (h i hi) else 0, fun i hi => ?_⟩
    show (if hi : i ≤ 64 then Classical.choose (h i hi) else 0) < 64 ∧ G (if hi : i ≤ 64 then Classical.choose (h i hi) else 0) = i
    rw [dif_pos hi]
    exact Classical.choose_spec (h i hi)
  have := fb_holes 64 65 f (fun i hi => (hf i (by omega)).1) (fun i j hij hj e => by
    have a := (hf i (by omega)).2
    have c := (hf j (by omega)).2
    rw [e, c] at a
    omega)
  omega
theorem WY_63 (hs : s < 64) (hE : WY blk s E) {c : Nat} (hc : c < 64) : E c ≤ 63 := by
  refine Classical.byContradiction (fun q => ?_)
  exact steps63 (G := E) (fun i hi => WY_down hs hE (E c).toNat c hc (by omega) i (by omega))
end WYS
/-! ===== the cells beside a cell ===== -/
def nxc (r c : Int) : Int := if (0 ≤ r ∧ r ≤ 7) ∧ (0 ≤ c ∧ c ≤ 7) then 8 * r + c else -1
def nx (d : Int) (k : Nat) : Int := nxc (d / 8 + (if k = 0 then -1 else if k = 1 then 1 else 0)) (md d 8 + (if k = 2 then -1 else if k = 3 then 1 else 0))
theorem nxc_in (r c : Int) : -1 ≤ nxc r c ∧ nxc r c ≤ 63 := by
  unfold nxc
  split <;> omega
theorem nx_in (d : Int) (k : Nat) : -1 ≤ nx d k ∧ nx d k ≤ 63 := nxc_in _ _
theorem x_next {d : Int} (h1 : 0 ≤ d) (h2 : d ≤ 63) {k : Nat} (hk : k < 4) : F_X0_nextTo (I d) (I k) = some (I (nx d k)) := by
  have hm := md_in (z := d) (d := 8) (by omega)
  have hro : F_X0_rowOf (I d) = some (I (d / 8)) := by
    unfold F_X0_rowOf
    rw [lit_8, I_div h1 (by omega) (by omega) (by omega)]
  have hco : F_X0_columnOf (I d) = some (I (md d 8)) := by
    unfold F_X0_columnOf
    rw [lit_8, I_div h1 (by omega) (by omega) (by omega), I_mul, I_sub]
    rfl
  have go : ∀ (a c : Int), -1 ≤ a → a ≤ 1 → -1 ≤ c → c ≤ 1 → ∀ p : Int32, J_X0_nextTo_38 (I d) p (I c) (I a) = some (I (nxc (d / 8 + a) (md d 8 + c))) := by
    intro a c a1 a2 c1 c2 p
    unfold J_X0_nextTo_38 nxc
    rw [hro, hco, bnd_some, bnd_some, I_add, I_add, x_cellAt (by omega) (by omega), bnd_some]
  unfold F_X0_nextTo J_X0_nextTo_18 nx
  have hk4 : k = 0 ∨ k = 1 ∨ k = 2 ∨ k = 3 := by omega
  rcases hk4 with rfl | rfl | rfl | rfl
  · have e1 : (if (0 : Nat) = 0 then (-1 : Int) else if (0 : Nat) = 1 then 1 else 0) = -1 := by decide
    have e2 : (if (0 : Nat) = 2 then (-1 : Int) else if (0 : Nat) = 3 then 1 else 0) = 0 := by decide
    rw [brn_pos _ _ (by decide), brn_neg _ _ (by decide), brn_neg _ _ (by decide), m1, lit_0, e1, e2]
    exact go (-1) (0) (by omega) (by omega) (by omega) (by omega) _
  · have e1 : (if (1 : Nat) = 0 then (-1 : Int) else if (1 : Nat) = 1 then 1 else 0) = 1 := by decide
    have e2 : (if (1 : Nat) = 2 then (-1 : Int) else if (1 : Nat) = 3 then 1 else 0) = 0 := by decide
    rw [brn_neg _ _ (by decide), brn_pos _ _ (by decide), brn_neg _ _ (by decide), brn_neg _ _ (by decide), lit_1, lit_0, e1, e2]
    exact go (1) (0) (by omega) (by omega) (by omega) (by omega) _
  · have e1 : (if (2 : Nat) = 0 then (-1 : Int) else if (2 : Nat) = 1 then 1 else 0) = 0 := by decide
    have e2 : (if (2 : Nat) = 2 then (-1 : Int) else if (2 : Nat) = 3 then 1 else 0) = -1 := by decide
    rw [brn_neg _ _ (by decide), brn_neg _ _ (by decide), brn_pos _ _ (by decide), m1, lit_0, e1, e2]
    exact go (0) (-1) (by omega) (by omega) (by omega) (by omega) _
  · have e1 : (if (3 : Nat) = 0 then (-1 : Int) else if (3 : Nat) = 1 then 1 else 0) = 0 := by decide
    have e2 : (if (3 : Nat) = 2 then (-1 : Int) else if (3 : Nat) = 3 then 1 else 0) = 1 := by decide
    rw [brn_neg _ _ (by decide), brn_neg _ _ (by decide), brn_neg _ _ (by decide), brn_pos _ _ (by decide), lit_1, lit_0, e1, e2]
    exact go (0) (1) (by omega) (by omega) (by omega) (by omega) _
theorem nx_far {d c : Int} (h1 : 0 ≤ d) (h2 : d ≤ 63) (h3 : 0 ≤ c) (h4 : c ≤ 63) : far d c = 1 ↔ ∃ k : Nat, k < 4 ∧ nx d k = c := by
  have hd := md_in (z := d) (d := 8) (by omega)
  have hc := md_in (z := c) (d := 8) (by omega)
  have ed : d = 8 * (d / 8) + md d 8 := by unfold md; omega
  have ec : c = 8 * (c / 8) + md c 8 := by unfold md; omega
  obtain ⟨R, hR⟩ : ∃ R, R = d / 8 := ⟨_, rfl⟩
  obtain ⟨K, hK⟩ : ∃ K, K = md d 8 := ⟨_, rfl⟩
  obtain ⟨R2, hR2⟩ : ∃ R, R = c / 8 := ⟨_, rfl⟩
  obtain ⟨K2, hK2⟩ : ∃ K, K = md c 8 := ⟨_, rfl⟩
  have ab : ∀ z : Int, absI z = z ∧ 0 ≤ z ∨ absI z = -z ∧ z < 0 := by
    intro z
    unfold absI
    split <;> omega
  unfold far nx
  rw [← hR, ← hK, ← hR2, ← hK2]
  rw [← hR, ← hK] at ed
  rw [← hR2, ← hK2] at ec
  rw [← hK] at hd
  rw [← hK2] at hc
  have a1 := ab (R - R2)
  have a2 := ab (K - K2)
  constructor
  · intro h
    have hc4 : (R2 = R - 1 ∧ K2 = K) ∨ (R2 = R + 1 ∧ K2 = K) ∨ (R2 = R ∧ K2 = K - 1) ∨ (R2 = R ∧ K2 = K + 1) := by omega
    rcases hc4 with q | q | q | q
    · exact ⟨0, by omega, by unfold nxc; simp; omega⟩
    · exact ⟨1, by omega, by unfold nxc; simp; omega⟩
    · exact ⟨2, by omega, by unfold nxc; simp; omega⟩
    · exact ⟨3, by omega, by unfold nxc; simp; omega⟩
  · rintro ⟨k, hk, h⟩
    unfold nxc at h
    have hk4 : k = 0 ∨ k = 1 ∨ k = 2 ∨ k = 3 := by omega
    rcases hk4 with rfl | rfl | rfl | rfl <;> simp at h <;> omega
