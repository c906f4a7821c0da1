/-! ===== whole numbers in 32 bits ===== -/
def I (z : Int) : Int32 := Int32.ofInt z
def J (f : Nat → Int) : Nat → Int32 := fun k => I (f k)
abbrev InR (z : Int) : Prop := -2147483648 ≤ z ∧ z < 2147483648
theorem I_toInt {z : Int} (h1 : -2147483648 ≤ z) (h2 : z < 2147483648) : (I z).toInt = z := Int32.toInt_ofInt_of_le h1 h2
theorem I_of (x : Int32) : I x.toInt = x := Int32.ofInt_toInt x
theorem InR_of (x : Int32) : InR x.toInt := ⟨Int32.le_toInt x, Int32.toInt_lt x⟩
theorem I_ex (x : Int32) : ∃ z : Int, InR z ∧ x = I z := ⟨x.toInt, InR_of x, (I_of x).symm⟩
theorem J_ex (f : Nat → Int32) : ∃ z : Nat → Int, (∀ k, InR (z k)) ∧ f = J z := ⟨fun k => (f k).toInt, fun k => InR_of _, funext fun k => (I_of _).symm⟩
theorem J_at (f : Nat → Int) (k : Nat) : J f k = I (f k) := rfl
theorem I_add (a b : Int) : I a + I b = I (a + b) := (Int32.ofInt_add a b).symm
theorem I_sub (a b : Int) : I a - I b = I (a - b) := (Int32.ofInt_sub a b).symm
theorem I_mul (a b : Int) : I a * I b = I (a * b) := (Int32.ofInt_mul a b).symm
theorem I_neg (a : Int) : -I a = I (-a) := (Int32.ofInt_neg a).symm
theorem I_lt {a b : Int} (h1 : -2147483648 ≤ a) (h2 : a < 2147483648) (h3 : -2147483648 ≤ b) (h4 : b < 2147483648) : (I a < I b) = (a < b) := propext (by rw [Int32.lt_iff_toInt_lt, I_toInt h1 h2, I_toInt h3 h4])
theorem I_le {a b : Int} (h1 : -2147483648 ≤ a) (h2 : a < 2147483648) (h3 : -2147483648 ≤ b) (h4 : b < 2147483648) : (I a ≤ I b) = (a ≤ b) := propext (by rw [Int32.le_iff_toInt_le, I_toInt h1 h2, I_toInt h3 h4])
theorem I_eq {a b : Int} (h1 : -2147483648 ≤ a) (h2 : a < 2147483648) (h3 : -2147483648 ≤ b) (h4 : b < 2147483648) : (I a = I b) = (a = b) := propext (by rw [← Int32.toInt_inj, I_toInt h1 h2, I_toInt h3 h4])
theorem I_cl {a : Int} (h1 : -2147483648 ≤ a) (h2 : a < 2147483648) : (I a).toNatClampNeg = a.toNat := by
  show (I a).toInt.toNat = a.toNat
  rw [I_toInt h1 h2]
theorem I_inb {a : Int} {n : Nat} (h1 : -2147483648 ≤ a) (h2 : a < 2147483648) : inb (I a) n = (0 ≤ a ∧ a < (n : Int)) := by
  have h0 : (0 : Int32) = I 0 := by decide
  unfold inb
  rw [h0, I_le (by omega) (by omega) h1 h2, I_cl h1 h2]
  exact propext ⟨fun h => ⟨h.1, by omega⟩, fun h => ⟨h.1, by omega⟩⟩
theorem I_tdiv {a b : Int} (h1 : -2147483648 ≤ a) (h2 : a < 2147483648) (h3 : -2147483648 ≤ b) (h4 : b < 2147483648) : I a / I b = I (a.tdiv b) := by
  have m1 : Int32.minValue.toInt = -2147483648 := by decide
  have m2 : Int32.maxValue.toInt = 2147483647 := by decide
  exact (Int32.ofInt_tdiv (by omega) (by omega) (by omega) (by omega)).symm
theorem I_div {a b : Int} (h1 : 0 ≤ a) (h2 : a < 2147483648) (h3 : 0 < b) (h4 : b < 2147483648) : I a / I b = I (a / b) := by
  rw [I_tdiv (by omega) h2 (by omega) h4, Int.tdiv_eq_ediv_of_nonneg h1]
theorem I_rem {a b : Int} (h1 : 0 ≤ a) (h2 : a < 2147483648) (h3 : 0 < b) (h4 : b < 2147483648) : I a - I a / I b * I b = I (a % b) := by
  rw [I_div h1 h2 h3 h4, I_mul, I_sub, Int.emod_def, Int.mul_comm b]
theorem lit_0 : (0 : Int32) = I 0 := by decide
theorem lit_1 : (1 : Int32) = I 1 := by decide
theorem lit_2 : (2 : Int32) = I 2 := by decide
theorem lit_3 : (3 : Int32) = I 3 := by decide
theorem lit_4 : (4 : Int32) = I 4 := by decide
theorem lit_5 : (5 : Int32) = I 5 := by decide
theorem lit_6 : (6 : Int32) = I 6 := by decide
theorem lit_7 : (7 : Int32) = I 7 := by decide
theorem lit_8 : (8 : Int32) = I 8 := by decide
theorem lit_9 : (9 : Int32) = I 9 := by decide
theorem lit_10 : (10 : Int32) = I 10 := by decide
theorem lit_11 : (11 : Int32) = I 11 := by decide
theorem lit_12 : (12 : Int32) = I 12 := by decide
theorem lit_13 : (13 : Int32) = I 13 := by decide
theorem lit_14 : (14 : Int32) = I 14 := by decide
theorem lit_20 : (20 : Int32) = I 20 := by decide
theorem lit_23 : (23 : Int32) = I 23 := by decide
theorem lit_24 : (24 : Int32) = I 24 := by decide
theorem lit_32 : (32 : Int32) = I 32 := by decide
theorem lit_33 : (33 : Int32) = I 33 := by decide
theorem lit_35 : (35 : Int32) = I 35 := by decide
theorem lit_40 : (40 : Int32) = I 40 := by decide
theorem lit_43 : (43 : Int32) = I 43 := by decide
theorem lit_45 : (45 : Int32) = I 45 := by decide
theorem lit_46 : (46 : Int32) = I 46 := by decide
theorem lit_47 : (47 : Int32) = I 47 := by decide
theorem lit_48 : (48 : Int32) = I 48 := by decide
theorem lit_49 : (49 : Int32) = I 49 := by decide
theorem lit_50 : (50 : Int32) = I 50 := by decide
theorem lit_57 : (57 : Int32) = I 57 := by decide
theorem lit_58 : (58 : Int32) = I 58 := by decide
theorem lit_59 : (59 : Int32) = I 59 := by decide
theorem lit_60 : (60 : Int32) = I 60 := by decide
theorem lit_61 : (61 : Int32) = I 61 := by decide
theorem lit_63 : (63 : Int32) = I 63 := by decide
theorem lit_64 : (64 : Int32) = I 64 := by decide
theorem lit_77 : (77 : Int32) = I 77 := by decide
theorem lit_95 : (95 : Int32) = I 95 := by decide
theorem lit_98 : (98 : Int32) = I 98 := by decide
theorem lit_99 : (99 : Int32) = I 99 := by decide
theorem lit_101 : (101 : Int32) = I 101 := by decide
theorem lit_104 : (104 : Int32) = I 104 := by decide
theorem lit_111 : (111 : Int32) = I 111 := by decide
theorem lit_112 : (112 : Int32) = I 112 := by decide
theorem lit_114 : (114 : Int32) = I 114 := by decide
theorem lit_116 : (116 : Int32) = I 116 := by decide
theorem lit_122 : (122 : Int32) = I 122 := by decide
theorem lit_127 : (127 : Int32) = I 127 := by decide
theorem lit_139 : (139 : Int32) = I 139 := by decide
theorem lit_147 : (147 : Int32) = I 147 := by decide
theorem lit_180 : (180 : Int32) = I 180 := by decide
theorem lit_255 : (255 : Int32) = I 255 := by decide
theorem lit_1000 : (1000 : Int32) = I 1000 := by decide
theorem lit_1029 : (1029 : Int32) = I 1029 := by decide
theorem brn_if {α : Type} (c : Prop) [Decidable c] (a b : Option α) : brn c a b = if c then a else b := rfl
theorem grd_if {α : Type} (c : Prop) [Decidable c] (a : Option α) : grd c a = if c then a else none := rfl
theorem bnd_some {α β : Type} (a : α) (f : α → Option β) : bnd (some a) f = f a := rfl
theorem bnd_none {α β : Type} (f : α → Option β) : bnd none f = none := rfl
theorem bnd_if {α β : Type} (c : Prop) [Decidable c] (a b : Option α) (f : α → Option β) : bnd (if c then a else b) f = if c then bnd a f else bnd b f := by split <;> rfl
theorem brn_pos {α : Type} {c : Prop} [Decidable c] (a b : Option α) (h : c) : brn c a b = a := if_pos h
theorem brn_neg {α : Type} {c : Prop} [Decidable c] (a b : Option α) (h : ¬ c) : brn c a b = b := if_neg h
theorem grd_pos {α : Type} {c : Prop} [Decidable c] (a : Option α) (h : c) : grd c a = a := if_pos h
/-- a truth value in 32 bits -/
def bI (b : Bool) : Int32 := if b then 1 else 0
theorem bI_0 (b : Bool) : (bI b = 0) = (b = false) := by cases b <;> simp [bI]
theorem bI_1 (b : Bool) : (bI b = 1) = (b = true) := by cases b <;> simp [bI]
theorem bI_z (b : Bool) : (bI b = 0 ∨ bI b = 1) = True := by cases b <;> simp [bI]
theorem bI_ite (c : Prop) [Decidable c] : (if c then some (1 : Int32) else some (0 : Int32)) = some (bI (decide c)) := by by_cases h : c <;> simp [bI, h]
theorem bI_iteN (c : Prop) [Decidable c] : (if c then some (0 : Int32) else some (1 : Int32)) = some (bI (!decide c)) := by by_cases h : c <;> simp [bI, h]
theorem bI_I (b : Bool) : bI b = I (if b then 1 else 0) := by cases b <;> decide
/-- a row with one place set -/
def U (f : Nat → Int) (k : Nat) (v : Int) : Nat → Int := fun j => if j = k then v else f j
theorem J_upd (f : Nat → Int) (k : Nat) (v : Int) : upd (J f) k (I v) = J (U f k v) := by
  funext j
  unfold upd J U
  by_cases h : j = k
  · rw [if_pos h, if_pos h]
  · rw [if_neg h, if_neg h]
theorem U_at (f : Nat → Int) (k j : Nat) (v : Int) : U f k v j = if j = k then v else f j := rfl
theorem U_same (f : Nat → Int) (k : Nat) (v : Int) : U f k v k = v := if_pos rfl
theorem U_ne (f : Nat → Int) {k j : Nat} (v : Int) (h : j ≠ k) : U f k v j = f j := if_neg h
/-- a row with a stretch copied into it -/
def CP (f g : Nat → Int) (sp dp n : Nat) : Nat → Int := fun j => if dp ≤ j ∧ j < dp + n then f (sp + (j - dp)) else g j
theorem J_cpy (f g : Nat → Int) (sp dp n : Nat) : va_cpy (J f) (J g) sp dp n = J (CP f g sp dp n) := by
  funext j
  unfold CP J
  by_cases h : dp ≤ j ∧ j < dp + n
  · rw [pk_cpy_in h.1 h.2]
    exact congrArg I (if_pos h).symm
  · rw [pk_cpy_out (by omega)]
    exact congrArg I (if_neg h).symm
theorem I_cpy {a b c : Int} {n0 n1 : Nat} (h1 : 0 ≤ a) (h2 : a < 2147483648) (h3 : 0 ≤ b) (h4 : b < 2147483648) (h5 : 0 ≤ c) (h6 : c < 2147483648) (h7 : a + c ≤ n0) (h8 : b + c ≤ n1) : cpyok (I a) (I b) (I c) n0 n1 := by
  have h0 : (0 : Int32) = I 0 := by decide
  unfold cpyok
  rw [h0, I_lt (by omega) h2 (by omega) (by omega), I_lt (by omega) h4 (by omega) (by omega), I_lt (by omega) h6 (by omega) (by omega), I_cl (by omega) h2, I_cl (by omega) h4, I_cl (by omega) h6]
  omega
/-! ===== searching and counting ===== -/
/-- the first place of r, from k on, at which p holds; -1 without one -/
def fIx (p : Nat → Bool) : Nat → Nat → Int
  | 0, _ => -1
  | r + 1, k => if p k then k else fIx p r (k + 1)
/-- the last such place; a without one -/
def lIx (p : Nat → Bool) : Nat → Nat → Int → Int
  | 0, _, a => a
  | r + 1, k, a => lIx p r (k + 1) (if p k then k else a)
/-- how many such places -/
def cnt (p : Nat → Bool) : Nat → Nat → Int
  | 0, _ => 0
  | r + 1, k => (if p k then 1 else 0) + cnt p r (k + 1)
/-- whether p holds at all of them -/
def allB (p : Nat → Bool) : Nat → Nat → Bool
  | 0, _ => true
  | r + 1, k => p k && allB p r (k + 1)
/-- the sum of f over them -/
def sumI (f : Nat → Int) : Nat → Nat → Int
  | 0, _ => 0
  | r + 1, k => f k + sumI f r (k + 1)
theorem fIx_sp (p : Nat → Bool) : ∀ r k, (fIx p r k = -1 ∧ ∀ i, k ≤ i → i < k + r → p i = false) ∨ ∃ i : Nat, k ≤ i ∧ i < k + r ∧ p i = true ∧ fIx p r k = i ∧ ∀ j, k ≤ j → j < i → p j = false := by
  intro r
  induction r with
  | zero => intro k; exact Or.inl ⟨rfl, fun i h1 h2 => by omega⟩
  | succ r ih =>
    intro k
    by_cases hk : p k = true
    · exact Or.inr ⟨k, Nat.le_refl _, by omega, hk, by rw [fIx, if_pos hk], fun j h1 h2 => by omega⟩
    · have hf : p k = false := by simpa using hk
      rcases ih (k + 1) with ⟨h1, h2⟩ | ⟨i, h1, h2, h3, h4, h5⟩
      · refine Or.inl ⟨by rw [fIx, if_neg hk]; exact h1, fun i a b => ?_⟩
        by_cases e : i = k
        · rw [e]; exact hf
        · exact h2 i (by omega) (by omega)
      · refine Or.inr ⟨i, by omega, by omega, h3, by rw [fIx, if_neg hk]; exact h4, fun j a b => ?_⟩
        by_cases e : j = k
        · rw [e]; exact hf
        · exact h5 j (by omega) b
theorem lIx_sp (p : Nat → Bool) : ∀ r k a, (lIx p r k a = a ∧ ∀ i, k ≤ i → i < k + r → p i = false) ∨ ∃ i : Nat, k ≤ i ∧ i < k + r ∧ p i = true ∧ lIx p r k a = i := by
  intro r
  induction r with
  | zero => intro k a; exact Or.inl ⟨rfl, fun i h1 h2 => by omega⟩
  | succ r ih =>
    intro k a
    by_cases hk : p k = true
    · rcases ih (k + 1) k with ⟨h1, h2⟩ | ⟨i, h1, h2, h3, h4⟩
      · exact Or.inr ⟨k, Nat.le_refl _, by omega, hk, by rw [lIx, if_pos hk]; exact h1⟩
      · exact Or.inr ⟨i, by omega, by omega, h3, by rw [lIx, if_pos hk]; exact h4⟩
    · have hf : p k = false := by simpa using hk
      rcases ih (k + 1) a with ⟨h1, h2⟩ | ⟨i, h1, h2, h3, h4⟩
      · refine Or.inl ⟨by rw [lIx, if_neg hk]; exact h1, fun i a b => ?_⟩
        by_cases e : i = k
        · rw [e]; exact hf
        · exact h2 i (by omega) (by omega)
      · exact Or.inr ⟨i, by omega, by omega, h3, by rw [lIx, if_neg hk]; exact h4⟩
/-- at most one place: first and last are the same -/
theorem fl_eq {p : Nat → Bool} {n : Nat} (h : ∀ i j, i < n → j < n → p i = true → p j = true → i = j) : fIx p n 0 = lIx p n 0 (-1) := by
  rcases fIx_sp p n 0 with ⟨h1, h2⟩ | ⟨i, h1, h2, h3, h4, h5⟩
  · rcases lIx_sp p n 0 (-1) with ⟨g1, g2⟩ | ⟨j, g1, g2, g3, g4⟩
    · rw [h1, g1]
    · rw [h2 j g1 g2] at g3; cases g3
  · rcases lIx_sp p n 0 (-1) with ⟨g1, g2⟩ | ⟨j, g1, g2, g3, g4⟩
    · rw [g2 i h1 h2] at h3; cases h3
    · rw [h4, g4, h i j (by omega) (by omega) h3 g3]
theorem fIx_cong {p q : Nat → Bool} : ∀ {r k : Nat}, (∀ i, k ≤ i → i < k + r → p i = q i) → fIx p r k = fIx q r k := by
  intro r
  induction r with
  | zero => intro k h; rfl
  | succ r ih =>
    intro k h
    rw [fIx, fIx, h k (by omega) (by omega), ih (fun i a b => h i (by omega) (by omega))]
theorem cnt_cong {p q : Nat → Bool} : ∀ {r k : Nat}, (∀ i, k ≤ i → i < k + r → p i = q i) → cnt p r k = cnt q r k := by
  intro r
  induction r with
  | zero => intro k h; rfl
  | succ r ih =>
    intro k h
    rw [cnt, cnt, h k (by omega) (by omega), ih (fun i a b => h i (by omega) (by omega))]
theorem allB_cong {p q : Nat → Bool} : ∀ {r k : Nat}, (∀ i, k ≤ i → i < k + r → p i = q i) → allB p r k = allB q r k := by
  intro r
  induction r with
  | zero => intro k h; rfl
  | succ r ih =>
    intro k h
    rw [allB, allB, h k (by omega) (by omega), ih (fun i a b => h i (by omega) (by omega))]
theorem sumI_cong {f g : Nat → Int} : ∀ {r k : Nat}, (∀ i, k ≤ i → i < k + r → f i = g i) → sumI f r k = sumI g r k := by
  intro r
  induction r with
  | zero => intro k h; rfl
  | succ r ih =>
    intro k h
    rw [sumI, sumI, h k (by omega) (by omega), ih (fun i a b => h i (by omega) (by omega))]
theorem cnt_in (p : Nat → Bool) : ∀ r k, 0 ≤ cnt p r k ∧ cnt p r k ≤ r := by
  intro r
  induction r with
  | zero => intro k; exact ⟨Int.le_refl _, Int.le_refl _⟩
  | succ r ih =>
    intro k
    have := ih (k + 1)
    rw [cnt]
    split <;> omega
theorem cnt_0 (p : Nat → Bool) : ∀ r k, (∀ i, k ≤ i → i < k + r → p i = false) → cnt p r k = 0 := by
  intro r
  induction r with
  | zero => intro k h; rfl
  | succ r ih =>
    intro k h
    rw [cnt, h k (by omega) (by omega), ih (k + 1) (fun i a b => h i (by omega) (by omega))]
    rfl
theorem allB_iff (p : Nat → Bool) : ∀ r k, (allB p r k = true) = (∀ i, k ≤ i → i < k + r → p i = true) := by
  intro r
  induction r with
  | zero => intro k; exact propext ⟨fun _ i h1 h2 => by omega, fun _ => rfl⟩
  | succ r ih =>
    intro k
    rw [allB, Bool.and_eq_true, ih]
    refine propext ⟨fun h i h1 h2 => ?_, fun h => ⟨h k (by omega) (by omega), fun i h1 h2 => h i (by omega) (by omega)⟩⟩
    by_cases e : i = k
    · rw [e]; exact h.1
    · exact h.2 i (by omega) (by omega)
