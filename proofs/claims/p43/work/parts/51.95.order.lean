/-! ===== one order, read by both ===== -/
def arK (k : Nat) : Nat := if k = 0 ∨ k = 2 ∨ k = 3 then 3 else if k = 5 then 2 else 1
def ltK (k : Nat) : Int := if k = 0 then 104 else if k = 1 then 98 else if k = 2 then 101 else if k = 3 then 114 else if k = 4 then 112 else if k = 5 then 116 else 119
/-- order j is the same to both -/
def OKo (K N O : Nat → Int32) (j : Nat) : Prop := ∃ k : Nat, k ≤ 6 ∧ K j = I k ∧ O (4 * j) = I (ltK k) ∧ ∀ m, m < arK k → N (3 * j + m) = O (4 * j + 1 + m)
def OJ (n p c : Nat) (K N O : Nat → Int32) (A : Option (Nat × Int32 × Int32 × Int32 × (Nat → Int32) × (Nat → Int32))) (B : Option (Nat × Int32 × Int32 × Int32 × (Nat → Int32))) : Prop :=
  ∃ (q : Nat) (fl : Bool) (ct om : Int32) (K2 N2 O2 : Nat → Int32), p ≤ q ∧ q ≤ n ∧ A = some (0, bI fl, ct, I q, K2, N2) ∧ B = some (0, I q, bI (!fl), om, O2) ∧ (fl = true → p + 2 ≤ q ∧ ct = I ((c + 1 : Nat) : Int) ∧ om = I ((c + 1 : Nat) : Int) ∧ OKo K2 N2 O2 c ∧ ∀ j, j < c → K2 j = K j ∧ (∀ m, m < 3 → N2 (3 * j + m) = N (3 * j + m)) ∧ ∀ m, m < 4 → O2 (4 * j + m) = O (4 * j + m))
section ORD
variable {n p c : Nat} {X Y K N O : Nat → Int32}
theorem grd_t {α : Type} {P : Prop} [Decidable P] (h : P) : ∀ a : Option α, grd P a = a := fun a => grd_pos a h
theorem ord_ix (hc : c < 60) : (inb ((4 : Int32) * I (c : Int)) 240 ∧ inb ((4 : Int32) * I (c : Int) + 1) 240 ∧ inb ((4 : Int32) * I (c : Int) + 2) 240 ∧ inb ((4 : Int32) * I (c : Int) + 3) 240) ∧ ((4 : Int32) * I (c : Int)).toNatClampNeg = 4 * c ∧ ((4 : Int32) * I (c : Int) + 1).toNatClampNeg = 4 * c + 1 ∧ ((4 : Int32) * I (c : Int) + 2).toNatClampNeg = 4 * c + 2 ∧ ((4 : Int32) * I (c : Int) + 3).toNatClampNeg = 4 * c + 3 := by
  rw [lit_4, lit_1, lit_2, lit_3, I_mul, I_add, I_add, I_add, I_inb (by omega) (by omega), I_inb (by omega) (by omega), I_inb (by omega) (by omega), I_inb (by omega) (by omega), I_cl (by omega) (by omega), I_cl (by omega) (by omega), I_cl (by omega) (by omega), I_cl (by omega) (by omega)]
  omega
theorem lit_119 : (119 : Int32) = I 119 := by decide
theorem ne_m1 {v : Int} (h1 : 0 ≤ v) (h2 : v ≤ 99) : ¬ I v = -1 := by
  rw [m1, I_eq (by omega) (by omega) (by omega) (by omega)]
  omega

set_option maxHeartbeats 4000000 in
theorem ro_h (hn : n ≤ 60) (hp : p < n) (hc : c < 60) (hXY : ∀ i, i < n → X i = Y i) (hz : X p = 104) : OJ n p c K N O (F_X3_readOrder (I n) X (I c) (I p) K N) (F_X12_readOrder (I n) Y (I p) 0 (I c) O) := by
  obtain ⟨⟨i0, i1, i2, i3⟩, e0, e1, e2, e3⟩ := ord_ix hc
  have kk : I (p : Int) + 1 = I ((p + 1 : Nat) : Int) := by rw [lit_1, I_add]; congr 1
  have kc : I (c : Int) + 1 = I ((c + 1 : Nat) : Int) := by rw [lit_1, I_add]; congr 1
  have ecl : (I (p : Int)).toNatClampNeg = p := by rw [I_cl (by omega) (by omega)]; omega
  have bT : ∀ a b : Option (Nat × Int32 × Int32 × Int32 × (Nat → Int32)), brn ((101 : Int32) = 101) a b = a := fun a b => brn_pos a b rfl
  have bF : ∀ a b : Option (Nat × Int32 × Int32 × Int32 × (Nat → Int32)), brn ((114 : Int32) = 101) a b = b := fun a b => brn_neg a b (by decide)
  have hz2 : Y p = 104 := by rw [← hXY p hp]; exact hz
  have ki : F_X3_kindOf 104 = some 0 ∧ F_J0_indexOf_0f7a4 11 104 = some 0 := by
    have := kind_at (z := 104) (by omega)
    rw [show kdx 104 = 0 by decide, ← lit_104, ← lit_0] at this
    exact this
  have fo : F_X3_formOf 0 = some 6 := by decide
  unfold F_X3_readOrder F_X12_readOrder J_X12_readOrder_32 F_X3_readForm J_X12_readOrder_239
  rw [s_here hp hn, bnd_some, hz, ki.1, bnd_some, brn_neg _ _ (show ¬ (0 : Int32) = -1 by decide), x_put (N := 60) (by decide) hc, bnd_some, fo, bnd_some, kk]
  rw [brn_pos _ _ (show (0 : Int32) = 0 from rfl), brn_neg _ _ (show ¬ I (n : Int) ≤ I (p : Int) by rw [I_le (by omega) (by omega) (by omega) (by omega)]; omega), grd_pos _ (show inb (I (p : Int)) 60 by rw [I_inb (by omega) (by omega)]; omega), ecl, hz2, grd_pos _ (show 11 < 12 by decide), ki.2, bnd_some, brn_pos _ _ (show (0 : Int32) ≤ 0 by decide), grd_pos _ i0, brn_neg _ _ (show ¬ (104 : Int32) = 101 by decide), brn_pos _ _ (show (104 : Int32) = 104 from rfl)]
  rcases nb_j (X := X) (Y := Y) (p := p + 1) hn (by omega) hXY with ⟨v0, a0, b0, q0, l0, u0, x0, y0⟩ | ⟨x0, y0⟩
  rotate_left
  · rw [rf_6_0 hc, x0, bnd_some]
    dsimp only
    rw [brn_pos _ _ (show I (-1) = -1 by rw [m1]), bnd_some]
    dsimp only
    rw [brn_pos _ _ (show (0 : Nat) = 0 from rfl), brn_pos _ _ (show (0 : Int32) = 0 from rfl), y0, bnd_some]
    dsimp only
    simp only [sg_w, dt_w, nb_w, bnd_some, grd_t i1, grd_t i2, grd_t i3, bT, bF]
    exact ⟨p + 1, false, _, _, _, _, _, by omega, by omega, rfl, rfl, fun g => by cases g⟩
  rw [rf_6_0 hc, x0, bnd_some]
  dsimp only
  rw [brn_neg _ _ (ne_m1 a0 b0), y0, bnd_some]
  dsimp only
  rw [grd_pos _ i1]
  have sj := sg_j (X := X) (Y := Y) (p := q0) (z := 47) (by omega) hn (by omega) hXY
  rw [← lit_47] at sj
  rcases sj with ⟨u, l1, x1, y1, -⟩ | ⟨x1, y1, -⟩
  rotate_left
  · rw [rf_6_1, x1, bnd_some]
    dsimp only
    rw [brn_pos _ _ (show (0 : Int32) = 0 from rfl), bnd_some]
    dsimp only
    rw [brn_pos _ _ (show (0 : Nat) = 0 from rfl), brn_pos _ _ (show (0 : Int32) = 0 from rfl), y1, bnd_some]
    dsimp only
    simp only [sg_w, dt_w, nb_w, bnd_some, grd_t i1, grd_t i2, grd_t i3, bT, bF]
    exact ⟨q0, false, _, _, _, _, _, by omega, by omega, rfl, rfl, fun g => by cases g⟩
  rw [rf_6_1, x1, bnd_some]
  dsimp only
  rw [brn_neg _ _ (show ¬ (1 : Int32) = 0 by decide), y1, bnd_some]
  dsimp only
  rcases nb_j (X := X) (Y := Y) (p := q0 + 1) hn (by omega) hXY with ⟨v1, a1, b1, q2, l2, u2, x2, y2⟩ | ⟨x2, y2⟩
  rotate_left
  · rw [rf_6_2 hc, x2, bnd_some]
    dsimp only
    rw [brn_pos _ _ (show I (-1) = -1 by rw [m1]), bnd_some]
    dsimp only
    rw [brn_pos _ _ (show (0 : Nat) = 0 from rfl), brn_pos _ _ (show (0 : Int32) = 0 from rfl), y2, bnd_some]
    dsimp only
    simp only [sg_w, dt_w, nb_w, bnd_some, grd_t i1, grd_t i2, grd_t i3, bT, bF]
    exact ⟨q0 + 1, false, _, _, _, _, _, by omega, by omega, rfl, rfl, fun g => by cases g⟩
  rw [rf_6_2 hc, x2, bnd_some]
  dsimp only
  rw [brn_neg _ _ (ne_m1 a1 b1), y2, bnd_some]
  dsimp only
  rw [grd_pos _ i2]
  have sj := sg_j (X := X) (Y := Y) (p := q2) (z := 45) (by omega) hn (by omega) hXY
  rw [← lit_45] at sj
  rcases sj with ⟨u, l3, x3, y3, -⟩ | ⟨x3, y3, -⟩
  rotate_left
  · rw [rf_6_3, x3, bnd_some]
    dsimp only
    rw [brn_pos _ _ (show (0 : Int32) = 0 from rfl), bnd_some]
    dsimp only
    rw [brn_pos _ _ (show (0 : Nat) = 0 from rfl), brn_pos _ _ (show (0 : Int32) = 0 from rfl), y3, bnd_some]
    dsimp only
    simp only [sg_w, dt_w, nb_w, bnd_some, grd_t i1, grd_t i2, grd_t i3, bT, bF]
    exact ⟨q2, false, _, _, _, _, _, by omega, by omega, rfl, rfl, fun g => by cases g⟩
  rw [rf_6_3, x3, bnd_some]
  dsimp only
  rw [brn_neg _ _ (show ¬ (1 : Int32) = 0 by decide), y3, bnd_some]
  dsimp only
  rcases nb_j (X := X) (Y := Y) (p := q2 + 1) hn (by omega) hXY with ⟨v2, a2, b2, q4, l4, u4, x4, y4⟩ | ⟨x4, y4⟩
  rotate_left
  · rw [rf_6_4 hc, x4, bnd_some]
    dsimp only
    rw [brn_pos _ _ (show I (-1) = -1 by rw [m1]), bnd_some]
    dsimp only
    rw [brn_pos _ _ (show (0 : Nat) = 0 from rfl), brn_pos _ _ (show (0 : Int32) = 0 from rfl), y4, bnd_some]
    dsimp only
    simp only [sg_w, dt_w, nb_w, bnd_some, grd_t i1, grd_t i2, grd_t i3, bT, bF]
    exact ⟨q2 + 1, false, _, _, _, _, _, by omega, by omega, rfl, rfl, fun g => by cases g⟩
  rw [rf_6_4 hc, x4, bnd_some]
  dsimp only
  rw [brn_neg _ _ (ne_m1 a2 b2), y4, bnd_some]
  dsimp only
  rw [grd_pos _ i3]
  rw [rf_6_e, bnd_some]
  dsimp only
  rw [brn_pos _ _ (show (0 : Nat) = 0 from rfl), brn_neg _ _ (show ¬ (1 : Int32) = 0 by decide), kc, e0, e1, e2, e3]
  refine ⟨q4, true, _, _, _, _, _, by omega, by omega, rfl, rfl, fun _ => ⟨by omega, rfl, rfl, ⟨0, by decide, upd_same, ?_, fun m hm => ?_⟩, fun j hj => ⟨upd_ne (by omega), fun m hm => ?_, fun m hm => ?_⟩⟩⟩
  · rw [upd_ne (by omega), upd_ne (by omega), upd_ne (by omega), upd_same]
    rfl
  · have hm : m = 0 ∨ m = 1 ∨ m = 2 := by have : arK 0 = 3 := rfl; omega
    rcases hm with rfl | rfl | rfl
    all_goals simp (disch := omega) only [upd_ne, upd_same]
  · rw [upd_ne (by omega), upd_ne (by omega), upd_ne (by omega)]
  · rw [upd_ne (by omega), upd_ne (by omega), upd_ne (by omega), upd_ne (by omega)]
set_option maxHeartbeats 4000000 in
theorem ro_b (hn : n ≤ 60) (hp : p < n) (hc : c < 60) (hXY : ∀ i, i < n → X i = Y i) (hz : X p = 98) : OJ n p c K N O (F_X3_readOrder (I n) X (I c) (I p) K N) (F_X12_readOrder (I n) Y (I p) 0 (I c) O) := by
  obtain ⟨⟨i0, i1, i2, i3⟩, e0, e1, e2, e3⟩ := ord_ix hc
  have kk : I (p : Int) + 1 = I ((p + 1 : Nat) : Int) := by rw [lit_1, I_add]; congr 1
  have kc : I (c : Int) + 1 = I ((c + 1 : Nat) : Int) := by rw [lit_1, I_add]; congr 1
  have ecl : (I (p : Int)).toNatClampNeg = p := by rw [I_cl (by omega) (by omega)]; omega
  have bT : ∀ a b : Option (Nat × Int32 × Int32 × Int32 × (Nat → Int32)), brn ((101 : Int32) = 101) a b = a := fun a b => brn_pos a b rfl
  have bF : ∀ a b : Option (Nat × Int32 × Int32 × Int32 × (Nat → Int32)), brn ((114 : Int32) = 101) a b = b := fun a b => brn_neg a b (by decide)
  have hz2 : Y p = 98 := by rw [← hXY p hp]; exact hz
  have ki : F_X3_kindOf 98 = some 1 ∧ F_J0_indexOf_0f7a4 11 98 = some 1 := by
    have := kind_at (z := 98) (by omega)
    rw [show kdx 98 = 1 by decide, ← lit_98, ← lit_1] at this
    exact this
  have fo : F_X3_formOf 1 = some 10 := by decide
  unfold F_X3_readOrder F_X12_readOrder J_X12_readOrder_32 F_X3_readForm J_X12_readOrder_239
  rw [s_here hp hn, bnd_some, hz, ki.1, bnd_some, brn_neg _ _ (show ¬ (1 : Int32) = -1 by decide), x_put (N := 60) (by decide) hc, bnd_some, fo, bnd_some, kk]
  rw [brn_pos _ _ (show (0 : Int32) = 0 from rfl), brn_neg _ _ (show ¬ I (n : Int) ≤ I (p : Int) by rw [I_le (by omega) (by omega) (by omega) (by omega)]; omega), grd_pos _ (show inb (I (p : Int)) 60 by rw [I_inb (by omega) (by omega)]; omega), ecl, hz2, grd_pos _ (show 11 < 12 by decide), ki.2, bnd_some, brn_pos _ _ (show (0 : Int32) ≤ 1 by decide), grd_pos _ i0, brn_neg _ _ (show ¬ (98 : Int32) = 101 by decide), brn_neg _ _ (show ¬ (98 : Int32) = 104 by decide), brn_neg _ _ (show ¬ (98 : Int32) = 114 by decide), brn_neg _ _ (show ¬ (98 : Int32) = 116 by decide)]
  rcases nb_j (X := X) (Y := Y) (p := p + 1) hn (by omega) hXY with ⟨v0, a0, b0, q0, l0, u0, x0, y0⟩ | ⟨x0, y0⟩
  rotate_left
  · rw [rf_10_0 hc, x0, bnd_some]
    dsimp only
    rw [brn_pos _ _ (show I (-1) = -1 by rw [m1]), bnd_some]
    dsimp only
    rw [brn_pos _ _ (show (0 : Nat) = 0 from rfl), brn_pos _ _ (show (0 : Int32) = 0 from rfl), y0, bnd_some]
    dsimp only
    simp only [sg_w, dt_w, nb_w, bnd_some, grd_t i1, grd_t i2, grd_t i3, bT, bF]
    exact ⟨p + 1, false, _, _, _, _, _, by omega, by omega, rfl, rfl, fun g => by cases g⟩
  rw [rf_10_0 hc, x0, bnd_some]
  dsimp only
  rw [brn_neg _ _ (ne_m1 a0 b0), y0, bnd_some]
  dsimp only
  rw [grd_pos _ i1]
  rw [rf_10_e, bnd_some]
  dsimp only
  rw [brn_pos _ _ (show (0 : Nat) = 0 from rfl), brn_neg _ _ (show ¬ (1 : Int32) = 0 by decide), kc, e0, e1]
  refine ⟨q0, true, _, _, _, _, _, by omega, by omega, rfl, rfl, fun _ => ⟨by omega, rfl, rfl, ⟨1, by decide, upd_same, ?_, fun m hm => ?_⟩, fun j hj => ⟨upd_ne (by omega), fun m hm => ?_, fun m hm => ?_⟩⟩⟩
  · rw [upd_ne (by omega), upd_same]
    rfl
  · have hm : m = 0 := by have : arK 1 = 1 := rfl; omega
    subst hm
    simp (disch := omega) only [upd_ne, upd_same]
  · rw [upd_ne (by omega)]
  · rw [upd_ne (by omega), upd_ne (by omega)]
set_option maxHeartbeats 4000000 in
theorem ro_e (hn : n ≤ 60) (hp : p < n) (hc : c < 60) (hXY : ∀ i, i < n → X i = Y i) (hz : X p = 101) : OJ n p c K N O (F_X3_readOrder (I n) X (I c) (I p) K N) (F_X12_readOrder (I n) Y (I p) 0 (I c) O) := by
  obtain ⟨⟨i0, i1, i2, i3⟩, e0, e1, e2, e3⟩ := ord_ix hc
  have kk : I (p : Int) + 1 = I ((p + 1 : Nat) : Int) := by rw [lit_1, I_add]; congr 1
  have kc : I (c : Int) + 1 = I ((c + 1 : Nat) : Int) := by rw [lit_1, I_add]; congr 1
  have ecl : (I (p : Int)).toNatClampNeg = p := by rw [I_cl (by omega) (by omega)]; omega
  have bT : ∀ a b : Option (Nat × Int32 × Int32 × Int32 × (Nat → Int32)), brn ((101 : Int32) = 101) a b = a := fun a b => brn_pos a b rfl
  have bF : ∀ a b : Option (Nat × Int32 × Int32 × Int32 × (Nat → Int32)), brn ((114 : Int32) = 101) a b = b := fun a b => brn_neg a b (by decide)
  have hz2 : Y p = 101 := by rw [← hXY p hp]; exact hz
  have ki : F_X3_kindOf 101 = some 2 ∧ F_J0_indexOf_0f7a4 11 101 = some 2 := by
    have := kind_at (z := 101) (by omega)
    rw [show kdx 101 = 2 by decide, ← lit_101, ← lit_2] at this
    exact this
  have fo : F_X3_formOf 2 = some 7 := by decide
  unfold F_X3_readOrder F_X12_readOrder J_X12_readOrder_32 F_X3_readForm J_X12_readOrder_239
  rw [s_here hp hn, bnd_some, hz, ki.1, bnd_some, brn_neg _ _ (show ¬ (2 : Int32) = -1 by decide), x_put (N := 60) (by decide) hc, bnd_some, fo, bnd_some, kk]
  rw [brn_pos _ _ (show (0 : Int32) = 0 from rfl), brn_neg _ _ (show ¬ I (n : Int) ≤ I (p : Int) by rw [I_le (by omega) (by omega) (by omega) (by omega)]; omega), grd_pos _ (show inb (I (p : Int)) 60 by rw [I_inb (by omega) (by omega)]; omega), ecl, hz2, grd_pos _ (show 11 < 12 by decide), ki.2, bnd_some, brn_pos _ _ (show (0 : Int32) ≤ 2 by decide), grd_pos _ i0, brn_pos _ _ (show (101 : Int32) = 101 from rfl)]
  rcases dt_j (X := X) (Y := Y) (p := p + 1) hn (by omega) hXY with ⟨v0, a0, b0, q0, l0, u0, x0, y0⟩ | ⟨x0, y0⟩
  rotate_left
  · rw [rf_7_0 hc, x0, bnd_some]
    dsimp only
    rw [brn_pos _ _ (show I (-1) = -1 by rw [m1]), bnd_some]
    dsimp only
    rw [brn_pos _ _ (show (0 : Nat) = 0 from rfl), brn_pos _ _ (show (0 : Int32) = 0 from rfl), y0, bnd_some]
    dsimp only
    simp only [sg_w, dt_w, nb_w, bnd_some, grd_t i1, grd_t i2, grd_t i3, bT, bF]
    exact ⟨p + 1, false, _, _, _, _, _, by omega, by omega, rfl, rfl, fun g => by cases g⟩
  rw [rf_7_0 hc, x0, bnd_some]
  dsimp only
  rw [brn_neg _ _ (ne_m1 a0 b0), y0, bnd_some]
  dsimp only
  rw [grd_pos _ i1]
  have sj := sg_j (X := X) (Y := Y) (p := q0) (z := 58) (by omega) hn (by omega) hXY
  rw [← lit_58] at sj
  rcases sj with ⟨u, l1, x1, y1, -⟩ | ⟨x1, y1, -⟩
  rotate_left
  · rw [rf_7_1, x1, bnd_some]
    dsimp only
    rw [brn_pos _ _ (show (0 : Int32) = 0 from rfl), bnd_some]
    dsimp only
    rw [brn_pos _ _ (show (0 : Nat) = 0 from rfl), brn_pos _ _ (show (0 : Int32) = 0 from rfl), y1, bnd_some]
    dsimp only
    simp only [sg_w, dt_w, nb_w, bnd_some, grd_t i1, grd_t i2, grd_t i3, bT, bF]
    exact ⟨q0, false, _, _, _, _, _, by omega, by omega, rfl, rfl, fun g => by cases g⟩
  rw [rf_7_1, x1, bnd_some]
  dsimp only
  rw [brn_neg _ _ (show ¬ (1 : Int32) = 0 by decide), y1, bnd_some]
  dsimp only
  rcases dt_j (X := X) (Y := Y) (p := q0 + 1) hn (by omega) hXY with ⟨v1, a1, b1, q2, l2, u2, x2, y2⟩ | ⟨x2, y2⟩
  rotate_left
  · rw [rf_7_2 hc, x2, bnd_some]
    dsimp only
    rw [brn_pos _ _ (show I (-1) = -1 by rw [m1]), bnd_some]
    dsimp only
    rw [brn_pos _ _ (show (0 : Nat) = 0 from rfl), brn_pos _ _ (show (0 : Int32) = 0 from rfl), y2, bnd_some]
    dsimp only
    simp only [sg_w, dt_w, nb_w, bnd_some, grd_t i1, grd_t i2, grd_t i3, bT, bF]
    exact ⟨q0 + 1, false, _, _, _, _, _, by omega, by omega, rfl, rfl, fun g => by cases g⟩
  rw [rf_7_2 hc, x2, bnd_some]
  dsimp only
  rw [brn_neg _ _ (ne_m1 a1 b1), y2, bnd_some]
  dsimp only
  rw [grd_pos _ i2]
  have sj := sg_j (X := X) (Y := Y) (p := q2) (z := 45) (by omega) hn (by omega) hXY
  rw [← lit_45] at sj
  rcases sj with ⟨u, l3, x3, y3, -⟩ | ⟨x3, y3, -⟩
  rotate_left
  · rw [rf_7_3, x3, bnd_some]
    dsimp only
    rw [brn_pos _ _ (show (0 : Int32) = 0 from rfl), bnd_some]
    dsimp only
    rw [brn_pos _ _ (show (0 : Nat) = 0 from rfl), brn_pos _ _ (show (0 : Int32) = 0 from rfl), bT, y3, bnd_some]
    dsimp only
    simp only [sg_w, dt_w, nb_w, bnd_some, grd_t i1, grd_t i2, grd_t i3, bT, bF]
    exact ⟨q2, false, _, _, _, _, _, by omega, by omega, rfl, rfl, fun g => by cases g⟩
  rw [rf_7_3, x3, bnd_some]
  dsimp only
  rw [brn_neg _ _ (show ¬ (1 : Int32) = 0 by decide), bT, y3, bnd_some]
  dsimp only
  rcases dt_j (X := X) (Y := Y) (p := q2 + 1) hn (by omega) hXY with ⟨v2, a2, b2, q4, l4, u4, x4, y4⟩ | ⟨x4, y4⟩
  rotate_left
  · rw [rf_7_4 hc, x4, bnd_some]
    dsimp only
    rw [brn_pos _ _ (show I (-1) = -1 by rw [m1]), bnd_some]
    dsimp only
    rw [brn_pos _ _ (show (0 : Nat) = 0 from rfl), brn_pos _ _ (show (0 : Int32) = 0 from rfl), y4, bnd_some]
    dsimp only
    simp only [sg_w, dt_w, nb_w, bnd_some, grd_t i1, grd_t i2, grd_t i3, bT, bF]
    exact ⟨q2 + 1, false, _, _, _, _, _, by omega, by omega, rfl, rfl, fun g => by cases g⟩
  rw [rf_7_4 hc, x4, bnd_some]
  dsimp only
  rw [brn_neg _ _ (ne_m1 a2 b2), y4, bnd_some]
  dsimp only
  rw [grd_pos _ i3]
  rw [rf_7_e, bnd_some]
  dsimp only
  rw [brn_pos _ _ (show (0 : Nat) = 0 from rfl), brn_neg _ _ (show ¬ (1 : Int32) = 0 by decide), kc, e0, e1, e2, e3]
  refine ⟨q4, true, _, _, _, _, _, by omega, by omega, rfl, rfl, fun _ => ⟨by omega, rfl, rfl, ⟨2, by decide, upd_same, ?_, fun m hm => ?_⟩, fun j hj => ⟨upd_ne (by omega), fun m hm => ?_, fun m hm => ?_⟩⟩⟩
  · rw [upd_ne (by omega), upd_ne (by omega), upd_ne (by omega), upd_same]
    rfl
  · have hm : m = 0 ∨ m = 1 ∨ m = 2 := by have : arK 2 = 3 := rfl; omega
    rcases hm with rfl | rfl | rfl
    all_goals simp (disch := omega) only [upd_ne, upd_same]
  · rw [upd_ne (by omega), upd_ne (by omega), upd_ne (by omega)]
  · rw [upd_ne (by omega), upd_ne (by omega), upd_ne (by omega), upd_ne (by omega)]
set_option maxHeartbeats 4000000 in
theorem ro_r (hn : n ≤ 60) (hp : p < n) (hc : c < 60) (hXY : ∀ i, i < n → X i = Y i) (hz : X p = 114) : OJ n p c K N O (F_X3_readOrder (I n) X (I c) (I p) K N) (F_X12_readOrder (I n) Y (I p) 0 (I c) O) := by
  obtain ⟨⟨i0, i1, i2, i3⟩, e0, e1, e2, e3⟩ := ord_ix hc
  have kk : I (p : Int) + 1 = I ((p + 1 : Nat) : Int) := by rw [lit_1, I_add]; congr 1
  have kc : I (c : Int) + 1 = I ((c + 1 : Nat) : Int) := by rw [lit_1, I_add]; congr 1
  have ecl : (I (p : Int)).toNatClampNeg = p := by rw [I_cl (by omega) (by omega)]; omega
  have bT : ∀ a b : Option (Nat × Int32 × Int32 × Int32 × (Nat → Int32)), brn ((101 : Int32) = 101) a b = a := fun a b => brn_pos a b rfl
  have bF : ∀ a b : Option (Nat × Int32 × Int32 × Int32 × (Nat → Int32)), brn ((114 : Int32) = 101) a b = b := fun a b => brn_neg a b (by decide)
  have hz2 : Y p = 114 := by rw [← hXY p hp]; exact hz
  have ki : F_X3_kindOf 114 = some 3 ∧ F_J0_indexOf_0f7a4 11 114 = some 3 := by
    have := kind_at (z := 114) (by omega)
    rw [show kdx 114 = 3 by decide, ← lit_114, ← lit_3] at this
    exact this
  have fo : F_X3_formOf 3 = some 8 := by decide
  unfold F_X3_readOrder F_X12_readOrder J_X12_readOrder_32 F_X3_readForm J_X12_readOrder_239
  rw [s_here hp hn, bnd_some, hz, ki.1, bnd_some, brn_neg _ _ (show ¬ (3 : Int32) = -1 by decide), x_put (N := 60) (by decide) hc, bnd_some, fo, bnd_some, kk]
  rw [brn_pos _ _ (show (0 : Int32) = 0 from rfl), brn_neg _ _ (show ¬ I (n : Int) ≤ I (p : Int) by rw [I_le (by omega) (by omega) (by omega) (by omega)]; omega), grd_pos _ (show inb (I (p : Int)) 60 by rw [I_inb (by omega) (by omega)]; omega), ecl, hz2, grd_pos _ (show 11 < 12 by decide), ki.2, bnd_some, brn_pos _ _ (show (0 : Int32) ≤ 3 by decide), grd_pos _ i0, brn_neg _ _ (show ¬ (114 : Int32) = 101 by decide), brn_neg _ _ (show ¬ (114 : Int32) = 104 by decide), brn_pos _ _ (show (114 : Int32) = 114 from rfl)]
  rcases dt_j (X := X) (Y := Y) (p := p + 1) hn (by omega) hXY with ⟨v0, a0, b0, q0, l0, u0, x0, y0⟩ | ⟨x0, y0⟩
  rotate_left
  · rw [rf_8_0 hc, x0, bnd_some]
    dsimp only
    rw [brn_pos _ _ (show I (-1) = -1 by rw [m1]), bnd_some]
    dsimp only
    rw [brn_pos _ _ (show (0 : Nat) = 0 from rfl), brn_pos _ _ (show (0 : Int32) = 0 from rfl), y0, bnd_some]
    dsimp only
    simp only [sg_w, dt_w, nb_w, bnd_some, grd_t i1, grd_t i2, grd_t i3, bT, bF]
    exact ⟨p + 1, false, _, _, _, _, _, by omega, by omega, rfl, rfl, fun g => by cases g⟩
  rw [rf_8_0 hc, x0, bnd_some]
  dsimp only
  rw [brn_neg _ _ (ne_m1 a0 b0), y0, bnd_some]
  dsimp only
  rw [grd_pos _ i1]
  have sj := sg_j (X := X) (Y := Y) (p := q0) (z := 58) (by omega) hn (by omega) hXY
  rw [← lit_58] at sj
  rcases sj with ⟨u, l1, x1, y1, -⟩ | ⟨x1, y1, -⟩
  rotate_left
  · rw [rf_8_1, x1, bnd_some]
    dsimp only
    rw [brn_pos _ _ (show (0 : Int32) = 0 from rfl), bnd_some]
    dsimp only
    rw [brn_pos _ _ (show (0 : Nat) = 0 from rfl), brn_pos _ _ (show (0 : Int32) = 0 from rfl), y1, bnd_some]
    dsimp only
    simp only [sg_w, dt_w, nb_w, bnd_some, grd_t i1, grd_t i2, grd_t i3, bT, bF]
    exact ⟨q0, false, _, _, _, _, _, by omega, by omega, rfl, rfl, fun g => by cases g⟩
  rw [rf_8_1, x1, bnd_some]
  dsimp only
  rw [brn_neg _ _ (show ¬ (1 : Int32) = 0 by decide), y1, bnd_some]
  dsimp only
  rcases dt_j (X := X) (Y := Y) (p := q0 + 1) hn (by omega) hXY with ⟨v1, a1, b1, q2, l2, u2, x2, y2⟩ | ⟨x2, y2⟩
  rotate_left
  · rw [rf_8_2 hc, x2, bnd_some]
    dsimp only
    rw [brn_pos _ _ (show I (-1) = -1 by rw [m1]), bnd_some]
    dsimp only
    rw [brn_pos _ _ (show (0 : Nat) = 0 from rfl), brn_pos _ _ (show (0 : Int32) = 0 from rfl), y2, bnd_some]
    dsimp only
    simp only [sg_w, dt_w, nb_w, bnd_some, grd_t i1, grd_t i2, grd_t i3, bT, bF]
    exact ⟨q0 + 1, false, _, _, _, _, _, by omega, by omega, rfl, rfl, fun g => by cases g⟩
  rw [rf_8_2 hc, x2, bnd_some]
  dsimp only
  rw [brn_neg _ _ (ne_m1 a1 b1), y2, bnd_some]
  dsimp only
  rw [grd_pos _ i2]
  have sj := sg_j (X := X) (Y := Y) (p := q2) (z := 43) (by omega) hn (by omega) hXY
  rw [← lit_43] at sj
  rcases sj with ⟨u, l3, x3, y3, -⟩ | ⟨x3, y3, -⟩
  rotate_left
  · rw [rf_8_3, x3, bnd_some]
    dsimp only
    rw [brn_pos _ _ (show (0 : Int32) = 0 from rfl), bnd_some]
    dsimp only
    rw [brn_pos _ _ (show (0 : Nat) = 0 from rfl), brn_pos _ _ (show (0 : Int32) = 0 from rfl), bF, y3, bnd_some]
    dsimp only
    simp only [sg_w, dt_w, nb_w, bnd_some, grd_t i1, grd_t i2, grd_t i3, bT, bF]
    exact ⟨q2, false, _, _, _, _, _, by omega, by omega, rfl, rfl, fun g => by cases g⟩
  rw [rf_8_3, x3, bnd_some]
  dsimp only
  rw [brn_neg _ _ (show ¬ (1 : Int32) = 0 by decide), bF, y3, bnd_some]
  dsimp only
  rcases dt_j (X := X) (Y := Y) (p := q2 + 1) hn (by omega) hXY with ⟨v2, a2, b2, q4, l4, u4, x4, y4⟩ | ⟨x4, y4⟩
  rotate_left
  · rw [rf_8_4 hc, x4, bnd_some]
    dsimp only
    rw [brn_pos _ _ (show I (-1) = -1 by rw [m1]), bnd_some]
    dsimp only
    rw [brn_pos _ _ (show (0 : Nat) = 0 from rfl), brn_pos _ _ (show (0 : Int32) = 0 from rfl), y4, bnd_some]
    dsimp only
    simp only [sg_w, dt_w, nb_w, bnd_some, grd_t i1, grd_t i2, grd_t i3, bT, bF]
    exact ⟨q2 + 1, false, _, _, _, _, _, by omega, by omega, rfl, rfl, fun g => by cases g⟩
  rw [rf_8_4 hc, x4, bnd_some]
  dsimp only
  rw [brn_neg _ _ (ne_m1 a2 b2), y4, bnd_some]
  dsimp only
  rw [grd_pos _ i3]
  rw [rf_8_e, bnd_some]
  dsimp only
  rw [brn_pos _ _ (show (0 : Nat) = 0 from rfl), brn_neg _ _ (show ¬ (1 : Int32) = 0 by decide), kc, e0, e1, e2, e3]
  refine ⟨q4, true, _, _, _, _, _, by omega, by omega, rfl, rfl, fun _ => ⟨by omega, rfl, rfl, ⟨3, by decide, upd_same, ?_, fun m hm => ?_⟩, fun j hj => ⟨upd_ne (by omega), fun m hm => ?_, fun m hm => ?_⟩⟩⟩
  · rw [upd_ne (by omega), upd_ne (by omega), upd_ne (by omega), upd_same]
    rfl
  · have hm : m = 0 ∨ m = 1 ∨ m = 2 := by have : arK 3 = 3 := rfl; omega
    rcases hm with rfl | rfl | rfl
    all_goals simp (disch := omega) only [upd_ne, upd_same]
  · rw [upd_ne (by omega), upd_ne (by omega), upd_ne (by omega)]
  · rw [upd_ne (by omega), upd_ne (by omega), upd_ne (by omega), upd_ne (by omega)]
set_option maxHeartbeats 4000000 in
theorem ro_t (hn : n ≤ 60) (hp : p < n) (hc : c < 60) (hXY : ∀ i, i < n → X i = Y i) (hz : X p = 116) : OJ n p c K N O (F_X3_readOrder (I n) X (I c) (I p) K N) (F_X12_readOrder (I n) Y (I p) 0 (I c) O) := by
  obtain ⟨⟨i0, i1, i2, i3⟩, e0, e1, e2, e3⟩ := ord_ix hc
  have kk : I (p : Int) + 1 = I ((p + 1 : Nat) : Int) := by rw [lit_1, I_add]; congr 1
  have kc : I (c : Int) + 1 = I ((c + 1 : Nat) : Int) := by rw [lit_1, I_add]; congr 1
  have ecl : (I (p : Int)).toNatClampNeg = p := by rw [I_cl (by omega) (by omega)]; omega
  have bT : ∀ a b : Option (Nat × Int32 × Int32 × Int32 × (Nat → Int32)), brn ((101 : Int32) = 101) a b = a := fun a b => brn_pos a b rfl
  have bF : ∀ a b : Option (Nat × Int32 × Int32 × Int32 × (Nat → Int32)), brn ((114 : Int32) = 101) a b = b := fun a b => brn_neg a b (by decide)
  have hz2 : Y p = 116 := by rw [← hXY p hp]; exact hz
  have ki : F_X3_kindOf 116 = some 5 ∧ F_J0_indexOf_0f7a4 11 116 = some 5 := by
    have := kind_at (z := 116) (by omega)
    rw [show kdx 116 = 5 by decide, ← lit_116, ← lit_5] at this
    exact this
  have fo : F_X3_formOf 5 = some 9 := by decide
  unfold F_X3_readOrder F_X12_readOrder J_X12_readOrder_32 F_X3_readForm J_X12_readOrder_239
  rw [s_here hp hn, bnd_some, hz, ki.1, bnd_some, brn_neg _ _ (show ¬ (5 : Int32) = -1 by decide), x_put (N := 60) (by decide) hc, bnd_some, fo, bnd_some, kk]
  rw [brn_pos _ _ (show (0 : Int32) = 0 from rfl), brn_neg _ _ (show ¬ I (n : Int) ≤ I (p : Int) by rw [I_le (by omega) (by omega) (by omega) (by omega)]; omega), grd_pos _ (show inb (I (p : Int)) 60 by rw [I_inb (by omega) (by omega)]; omega), ecl, hz2, grd_pos _ (show 11 < 12 by decide), ki.2, bnd_some, brn_pos _ _ (show (0 : Int32) ≤ 5 by decide), grd_pos _ i0, brn_neg _ _ (show ¬ (116 : Int32) = 101 by decide), brn_neg _ _ (show ¬ (116 : Int32) = 104 by decide), brn_neg _ _ (show ¬ (116 : Int32) = 114 by decide), brn_pos _ _ (show (116 : Int32) = 116 from rfl)]
  rcases dt_j (X := X) (Y := Y) (p := p + 1) hn (by omega) hXY with ⟨v0, a0, b0, q0, l0, u0, x0, y0⟩ | ⟨x0, y0⟩
  rotate_left
  · rw [rf_9_0 hc, x0, bnd_some]
    dsimp only
    rw [brn_pos _ _ (show I (-1) = -1 by rw [m1]), bnd_some]
    dsimp only
    rw [brn_pos _ _ (show (0 : Nat) = 0 from rfl), brn_pos _ _ (show (0 : Int32) = 0 from rfl), y0, bnd_some]
    dsimp only
    simp only [sg_w, dt_w, nb_w, bnd_some, grd_t i1, grd_t i2, grd_t i3, bT, bF]
    exact ⟨p + 1, false, _, _, _, _, _, by omega, by omega, rfl, rfl, fun g => by cases g⟩
  rw [rf_9_0 hc, x0, bnd_some]
  dsimp only
  rw [brn_neg _ _ (ne_m1 a0 b0), y0, bnd_some]
  dsimp only
  rw [grd_pos _ i1]
  have sj := sg_j (X := X) (Y := Y) (p := q0) (z := 61) (by omega) hn (by omega) hXY
  rw [← lit_61] at sj
  rcases sj with ⟨u, l1, x1, y1, -⟩ | ⟨x1, y1, -⟩
  rotate_left
  · rw [rf_9_1, x1, bnd_some]
    dsimp only
    rw [brn_pos _ _ (show (0 : Int32) = 0 from rfl), bnd_some]
    dsimp only
    rw [brn_pos _ _ (show (0 : Nat) = 0 from rfl), brn_pos _ _ (show (0 : Int32) = 0 from rfl), y1, bnd_some]
    dsimp only
    simp only [sg_w, dt_w, nb_w, bnd_some, grd_t i1, grd_t i2, grd_t i3, bT, bF]
    exact ⟨q0, false, _, _, _, _, _, by omega, by omega, rfl, rfl, fun g => by cases g⟩
  rw [rf_9_1, x1, bnd_some]
  dsimp only
  rw [brn_neg _ _ (show ¬ (1 : Int32) = 0 by decide), y1, bnd_some]
  dsimp only
  rcases nb_j (X := X) (Y := Y) (p := q0 + 1) hn (by omega) hXY with ⟨v1, a1, b1, q2, l2, u2, x2, y2⟩ | ⟨x2, y2⟩
  rotate_left
  · rw [rf_9_2 hc, x2, bnd_some]
    dsimp only
    rw [brn_pos _ _ (show I (-1) = -1 by rw [m1]), bnd_some]
    dsimp only
    rw [brn_pos _ _ (show (0 : Nat) = 0 from rfl), brn_pos _ _ (show (0 : Int32) = 0 from rfl), y2, bnd_some]
    dsimp only
    simp only [sg_w, dt_w, nb_w, bnd_some, grd_t i1, grd_t i2, grd_t i3, bT, bF]
    exact ⟨q0 + 1, false, _, _, _, _, _, by omega, by omega, rfl, rfl, fun g => by cases g⟩
  rw [rf_9_2 hc, x2, bnd_some]
  dsimp only
  rw [brn_neg _ _ (ne_m1 a1 b1), y2, bnd_some]
  dsimp only
  rw [grd_pos _ i2]
  rw [rf_9_e, bnd_some]
  dsimp only
  rw [brn_pos _ _ (show (0 : Nat) = 0 from rfl), brn_neg _ _ (show ¬ (1 : Int32) = 0 by decide), kc, e0, e1, e2]
  refine ⟨q2, true, _, _, _, _, _, by omega, by omega, rfl, rfl, fun _ => ⟨by omega, rfl, rfl, ⟨5, by decide, upd_same, ?_, fun m hm => ?_⟩, fun j hj => ⟨upd_ne (by omega), fun m hm => ?_, fun m hm => ?_⟩⟩⟩
  · rw [upd_ne (by omega), upd_ne (by omega), upd_same]
    rfl
  · have hm : m = 0 ∨ m = 1 := by have : arK 5 = 2 := rfl; omega
    rcases hm with rfl | rfl
    all_goals simp (disch := omega) only [upd_ne, upd_same]
  · rw [upd_ne (by omega), upd_ne (by omega)]
  · rw [upd_ne (by omega), upd_ne (by omega), upd_ne (by omega)]
set_option maxHeartbeats 4000000 in
theorem ro_p (hn : n ≤ 60) (hp : p < n) (hc : c < 60) (hXY : ∀ i, i < n → X i = Y i) (hz : X p = 112) : OJ n p c K N O (F_X3_readOrder (I n) X (I c) (I p) K N) (F_X12_readOrder (I n) Y (I p) 0 (I c) O) := by
  obtain ⟨⟨i0, i1, i2, i3⟩, e0, e1, e2, e3⟩ := ord_ix hc
  have kk : I (p : Int) + 1 = I ((p + 1 : Nat) : Int) := by rw [lit_1, I_add]; congr 1
  have kc : I (c : Int) + 1 = I ((c + 1 : Nat) : Int) := by rw [lit_1, I_add]; congr 1
  have ecl : (I (p : Int)).toNatClampNeg = p := by rw [I_cl (by omega) (by omega)]; omega
  have bT : ∀ a b : Option (Nat × Int32 × Int32 × Int32 × (Nat → Int32)), brn ((101 : Int32) = 101) a b = a := fun a b => brn_pos a b rfl
  have bF : ∀ a b : Option (Nat × Int32 × Int32 × Int32 × (Nat → Int32)), brn ((114 : Int32) = 101) a b = b := fun a b => brn_neg a b (by decide)
  have hz2 : Y p = 112 := by rw [← hXY p hp]; exact hz
  have ki : F_X3_kindOf 112 = some 4 ∧ F_J0_indexOf_0f7a4 11 112 = some 4 := by
    have := kind_at (z := 112) (by omega)
    rw [show kdx 112 = 4 by decide, ← lit_112, ← lit_4] at this
    exact this
  have fo : F_X3_formOf 4 = some 10 := by decide
  unfold F_X3_readOrder F_X12_readOrder J_X12_readOrder_32 F_X3_readForm J_X12_readOrder_239
  rw [s_here hp hn, bnd_some, hz, ki.1, bnd_some, brn_neg _ _ (show ¬ (4 : Int32) = -1 by decide), x_put (N := 60) (by decide) hc, bnd_some, fo, bnd_some, kk]
  rw [brn_pos _ _ (show (0 : Int32) = 0 from rfl), brn_neg _ _ (show ¬ I (n : Int) ≤ I (p : Int) by rw [I_le (by omega) (by omega) (by omega) (by omega)]; omega), grd_pos _ (show inb (I (p : Int)) 60 by rw [I_inb (by omega) (by omega)]; omega), ecl, hz2, grd_pos _ (show 11 < 12 by decide), ki.2, bnd_some, brn_pos _ _ (show (0 : Int32) ≤ 4 by decide), grd_pos _ i0, brn_neg _ _ (show ¬ (112 : Int32) = 101 by decide), brn_neg _ _ (show ¬ (112 : Int32) = 104 by decide), brn_neg _ _ (show ¬ (112 : Int32) = 114 by decide), brn_neg _ _ (show ¬ (112 : Int32) = 116 by decide)]
  rcases nb_j (X := X) (Y := Y) (p := p + 1) hn (by omega) hXY with ⟨v0, a0, b0, q0, l0, u0, x0, y0⟩ | ⟨x0, y0⟩
  rotate_left
  · rw [rf_10_0 hc, x0, bnd_some]
    dsimp only
    rw [brn_pos _ _ (show I (-1) = -1 by rw [m1]), bnd_some]
    dsimp only
    rw [brn_pos _ _ (show (0 : Nat) = 0 from rfl), brn_pos _ _ (show (0 : Int32) = 0 from rfl), y0, bnd_some]
    dsimp only
    simp only [sg_w, dt_w, nb_w, bnd_some, grd_t i1, grd_t i2, grd_t i3, bT, bF]
    exact ⟨p + 1, false, _, _, _, _, _, by omega, by omega, rfl, rfl, fun g => by cases g⟩
  rw [rf_10_0 hc, x0, bnd_some]
  dsimp only
  rw [brn_neg _ _ (ne_m1 a0 b0), y0, bnd_some]
  dsimp only
  rw [grd_pos _ i1]
  rw [rf_10_e, bnd_some]
  dsimp only
  rw [brn_pos _ _ (show (0 : Nat) = 0 from rfl), brn_neg _ _ (show ¬ (1 : Int32) = 0 by decide), kc, e0, e1]
  refine ⟨q0, true, _, _, _, _, _, by omega, by omega, rfl, rfl, fun _ => ⟨by omega, rfl, rfl, ⟨4, by decide, upd_same, ?_, fun m hm => ?_⟩, fun j hj => ⟨upd_ne (by omega), fun m hm => ?_, fun m hm => ?_⟩⟩⟩
  · rw [upd_ne (by omega), upd_same]
    rfl
  · have hm : m = 0 := by have : arK 4 = 1 := rfl; omega
    subst hm
    simp (disch := omega) only [upd_ne, upd_same]
  · rw [upd_ne (by omega)]
  · rw [upd_ne (by omega), upd_ne (by omega)]
set_option maxHeartbeats 4000000 in
theorem ro_w (hn : n ≤ 60) (hp : p < n) (hc : c < 60) (hXY : ∀ i, i < n → X i = Y i) (hz : X p = 119) : OJ n p c K N O (F_X3_readOrder (I n) X (I c) (I p) K N) (F_X12_readOrder (I n) Y (I p) 0 (I c) O) := by
  obtain ⟨⟨i0, i1, i2, i3⟩, e0, e1, e2, e3⟩ := ord_ix hc
  have kk : I (p : Int) + 1 = I ((p + 1 : Nat) : Int) := by rw [lit_1, I_add]; congr 1
  have kc : I (c : Int) + 1 = I ((c + 1 : Nat) : Int) := by rw [lit_1, I_add]; congr 1
  have ecl : (I (p : Int)).toNatClampNeg = p := by rw [I_cl (by omega) (by omega)]; omega
  have bT : ∀ a b : Option (Nat × Int32 × Int32 × Int32 × (Nat → Int32)), brn ((101 : Int32) = 101) a b = a := fun a b => brn_pos a b rfl
  have bF : ∀ a b : Option (Nat × Int32 × Int32 × Int32 × (Nat → Int32)), brn ((114 : Int32) = 101) a b = b := fun a b => brn_neg a b (by decide)
  have hz2 : Y p = 119 := by rw [← hXY p hp]; exact hz
  have ki : F_X3_kindOf 119 = some 6 ∧ F_J0_indexOf_0f7a4 11 119 = some 6 := by
    have := kind_at (z := 119) (by omega)
    rw [show kdx 119 = 6 by decide, ← lit_119, ← lit_6] at this
    exact this
  have fo : F_X3_formOf 6 = some 10 := by decide
  unfold F_X3_readOrder F_X12_readOrder J_X12_readOrder_32 F_X3_readForm J_X12_readOrder_239
  rw [s_here hp hn, bnd_some, hz, ki.1, bnd_some, brn_neg _ _ (show ¬ (6 : Int32) = -1 by decide), x_put (N := 60) (by decide) hc, bnd_some, fo, bnd_some, kk]
  rw [brn_pos _ _ (show (0 : Int32) = 0 from rfl), brn_neg _ _ (show ¬ I (n : Int) ≤ I (p : Int) by rw [I_le (by omega) (by omega) (by omega) (by omega)]; omega), grd_pos _ (show inb (I (p : Int)) 60 by rw [I_inb (by omega) (by omega)]; omega), ecl, hz2, grd_pos _ (show 11 < 12 by decide), ki.2, bnd_some, brn_pos _ _ (show (0 : Int32) ≤ 6 by decide), grd_pos _ i0, brn_neg _ _ (show ¬ (119 : Int32) = 101 by decide), brn_neg _ _ (show ¬ (119 : Int32) = 104 by decide), brn_neg _ _ (show ¬ (119 : Int32) = 114 by decide), brn_neg _ _ (show ¬ (119 : Int32) = 116 by decide)]
  rcases nb_j (X := X) (Y := Y) (p := p + 1) hn (by omega) hXY with ⟨v0, a0, b0, q0, l0, u0, x0, y0⟩ | ⟨x0, y0⟩
  rotate_left
  · rw [rf_10_0 hc, x0, bnd_some]
    dsimp only
    rw [brn_pos _ _ (show I (-1) = -1 by rw [m1]), bnd_some]
    dsimp only
    rw [brn_pos _ _ (show (0 : Nat) = 0 from rfl), brn_pos _ _ (show (0 : Int32) = 0 from rfl), y0, bnd_some]
    dsimp only
    simp only [sg_w, dt_w, nb_w, bnd_some, grd_t i1, grd_t i2, grd_t i3, bT, bF]
    exact ⟨p + 1, false, _, _, _, _, _, by omega, by omega, rfl, rfl, fun g => by cases g⟩
  rw [rf_10_0 hc, x0, bnd_some]
  dsimp only
  rw [brn_neg _ _ (ne_m1 a0 b0), y0, bnd_some]
  dsimp only
  rw [grd_pos _ i1]
  rw [rf_10_e, bnd_some]
  dsimp only
  rw [brn_pos _ _ (show (0 : Nat) = 0 from rfl), brn_neg _ _ (show ¬ (1 : Int32) = 0 by decide), kc, e0, e1]
  refine ⟨q0, true, _, _, _, _, _, by omega, by omega, rfl, rfl, fun _ => ⟨by omega, rfl, rfl, ⟨6, by decide, upd_same, ?_, fun m hm => ?_⟩, fun j hj => ⟨upd_ne (by omega), fun m hm => ?_, fun m hm => ?_⟩⟩⟩
  · rw [upd_ne (by omega), upd_same]
    rfl
  · have hm : m = 0 := by have : arK 6 = 1 := rfl; omega
    subst hm
    simp (disch := omega) only [upd_ne, upd_same]
  · rw [upd_ne (by omega)]
  · rw [upd_ne (by omega), upd_ne (by omega)]
theorem ro_all (hn : n ≤ 60) (hp : p ≤ n) (hc : c ≤ p) (hXY : ∀ i, i < n → X i = Y i) : OJ n p c K N O (F_X3_readOrder (I n) X (I c) (I p) K N) (F_X12_readOrder (I n) Y (I p) 0 (I c) O) := by
  by_cases hp2 : p < n
  · obtain ⟨z, hz, e⟩ := I_ex (X p)
    by_cases q : kdx z = -1
    · have ki := kind_at hz
      have ecl : (I (p : Int)).toNatClampNeg = p := by rw [I_cl (by omega) (by omega)]; omega
      rw [q] at ki
      have e2 : Y p = I z := by rw [← hXY p hp2]; exact e
      unfold F_X3_readOrder F_X12_readOrder J_X12_readOrder_32
      rw [s_here hp2 hn, bnd_some, e, ki.1, bnd_some, brn_pos _ _ (show I (-1) = -1 by rw [m1]), brn_pos _ _ (show (0 : Int32) = 0 from rfl), brn_neg _ _ (show ¬ I (n : Int) ≤ I (p : Int) by rw [I_le (by omega) (by omega) (by omega) (by omega)]; omega), grd_pos _ (show inb (I (p : Int)) 60 by rw [I_inb (by omega) (by omega)]; omega), ecl, e2, grd_pos _ (show 11 < 12 by decide), ki.2, bnd_some, brn_neg _ _ (show ¬ (0 : Int32) ≤ I (-1) by decide)]
      exact ⟨p, false, _, _, _, _, _, by omega, by omega, rfl, rfl, fun g => by cases g⟩
    · have hl : z = 104 ∨ z = 98 ∨ z = 101 ∨ z = 114 ∨ z = 112 ∨ z = 116 ∨ z = 119 := by
        refine Classical.byContradiction (fun g => q ?_)
        unfold kdx
        rw [if_neg (by omega), if_neg (by omega), if_neg (by omega), if_neg (by omega), if_neg (by omega), if_neg (by omega), if_neg (by omega)]
      rcases hl with rfl | rfl | rfl | rfl | rfl | rfl | rfl
      · exact ro_h hn hp2 (by omega) hXY (by rw [e, lit_104])
      · exact ro_b hn hp2 (by omega) hXY (by rw [e, lit_98])
      · exact ro_e hn hp2 (by omega) hXY (by rw [e, lit_101])
      · exact ro_r hn hp2 (by omega) hXY (by rw [e, lit_114])
      · exact ro_p hn hp2 (by omega) hXY (by rw [e, lit_112])
      · exact ro_t hn hp2 (by omega) hXY (by rw [e, lit_116])
      · exact ro_w hn hp2 (by omega) hXY (by rw [e, lit_119])
  · have k1 := (kind_at (z := -1) (by omega)).1
    have k2 := (kind_at (z := 0) (by omega)).2
    rw [show kdx (-1) = -1 by decide] at k1
    rw [show kdx 0 = -1 by decide] at k2
    unfold F_X3_readOrder F_X12_readOrder J_X12_readOrder_32
    rw [s_end hp2 (by omega) hn, bnd_some, k1, bnd_some, brn_pos _ _ (show I (-1) = -1 by rw [m1]), brn_pos _ _ (show (0 : Int32) = 0 from rfl), brn_pos _ _ (show I (n : Int) ≤ I (p : Int) by rw [I_le (by omega) (by omega) (by omega) (by omega)]; omega), grd_pos _ (show 11 < 12 by decide), show F_J0_indexOf_0f7a4 11 0 = _ from k2, bnd_some, brn_neg _ _ (show ¬ (0 : Int32) ≤ I (-1) by decide)]
    exact ⟨p, false, _, _, _, _, _, by omega, by omega, rfl, rfl, fun g => by cases g⟩
end ORD
