/-! ===== texts, read by both: signs and numbers ===== -/
theorem upd_ne {a : Nat → Int32} {k j : Nat} {v : Int32} (h : j ≠ k) : upd a k v j = a j := by unfold upd; exact if_neg h
theorem upd_same {a : Nat → Int32} {k : Nat} {v : Int32} : upd a k v k = v := by unfold upd; exact if_pos rfl
/-- a sign's order; -1 without one -/
def kdx (z : Int) : Int := if z = 104 then 0 else if z = 98 then 1 else if z = 101 then 2 else if z = 114 then 3 else if z = 112 then 4 else if z = 116 then 5 else if z = 119 then 6 else -1
theorem kind_tab : ∀ z : Nat, z < 256 → F_X3_kindOf (I z) = some (I (kdx z)) := by decide +kernel
theorem index_tab : ∀ z : Nat, z < 256 → F_J0_indexOf_0f7a4 11 (I z) = some (I (kdx z)) := by decide +kernel
theorem kind_out {z : Int} (hz : InR z) (h : z < 0 ∨ 255 < z) : F_X3_kindOf (I z) = some (I (-1)) := by
  have st : ∀ (f k : Nat), k < 7 → L_X3_kindOf_2 (I z) (f + 1) (I k) = L_X3_kindOf_2 (I z) f (I ((k + 1 : Nat) : Int)) := by
    intro f k hk
    have kk : I (k : Int) + 1 = I ((k + 1 : Nat) : Int) := by rw [lit_1, I_add]; congr 1
    have ecl : (I (k : Int)).toNatClampNeg = k := by rw [I_cl (by omega) (by omega)]; omega
    have ne : ¬ sStI k = I z := by
      have : sStI k = I 104 ∨ sStI k = I 98 ∨ sStI k = I 101 ∨ sStI k = I 114 ∨ sStI k = I 112 ∨ sStI k = I 116 ∨ sStI k = I 119 := by
        rcases (show k = 0 ∨ k = 1 ∨ k = 2 ∨ k = 3 ∨ k = 4 ∨ k = 5 ∨ k = 6 by omega) with rfl | rfl | rfl | rfl | rfl | rfl | rfl <;> decide
      rcases this with e | e | e | e | e | e | e <;> rw [e, I_eq (by omega) (by omega) (by omega) (by omega)] <;> omega
    rw [L_X3_kindOf_2, brn_neg _ _ (by rw [show (7 : Int32) = I 7 from rfl, I_le (by omega) (by omega) (by omega) (by omega)]; omega), grd_pos _ (by rw [I_inb (by omega) (by omega)]; omega), ecl, brn_neg _ _ ne, kk]
  have e7 : L_X3_kindOf_2 (I z) 93 (I ((7 : Nat) : Int)) = some (I (-1)) := by
    show L_X3_kindOf_2 (I z) (92 + 1) (I ((7 : Nat) : Int)) = _
    rw [L_X3_kindOf_2, brn_pos _ _ (by decide), m1]
  exact (st 99 0 (by omega)).trans ((st 98 1 (by omega)).trans ((st 97 2 (by omega)).trans ((st 96 3 (by omega)).trans ((st 95 4 (by omega)).trans ((st 94 5 (by omega)).trans ((st 93 6 (by omega)).trans e7))))))
theorem index_out {z : Int} (hz : InR z) (h : z < 0 ∨ 255 < z) : F_J0_indexOf_0f7a4 11 (I z) = some (I (-1)) := by
  have ce : F_J1_canEncode_9a6ad (I z) = some 0 := by
    unfold F_J1_canEncode_9a6ad
    by_cases e : z < 0
    · rw [brn_pos _ _ (by rw [lit_0, I_lt (by omega) (by omega) (by omega) (by omega)]; exact e)]
    · rw [brn_neg _ _ (by rw [lit_0, I_lt (by omega) (by omega) (by omega) (by omega)]; exact e), brn_pos _ _ (by rw [lit_255, I_lt (by omega) (by omega) (by omega) (by omega)]; omega)]
  unfold F_J0_indexOf_0f7a4 F_J0_indexOf_7cf53 F_J1_indexOf_4cfef
  rw [grd_pos _ (by decide), grd_pos _ (by decide), show F_J0_isLatin1_aae02 11 = some 1 by decide, bnd_some, brn_neg _ _ (by decide), grd_pos _ (by decide), grd_pos _ (by decide), show F_R_length 11 = some 7 by decide, bnd_some, ce, bnd_some, brn_pos _ _ (by first | rfl | decide), bnd_some, bnd_some, m1]
theorem kdx_in (z : Int) : -1 ≤ kdx z ∧ kdx z ≤ 6 := by
  unfold kdx
  split
  · omega
  · split
    · omega
    · split
      · omega
      · split
        · omega
        · split
          · omega
          · split
            · omega
            · split <;> omega
theorem kind_at {z : Int} (hz : InR z) : F_X3_kindOf (I z) = some (I (kdx z)) ∧ F_J0_indexOf_0f7a4 11 (I z) = some (I (kdx z)) := by
  by_cases e : 0 ≤ z ∧ z ≤ 255
  · obtain ⟨k, rfl⟩ := Int.eq_ofNat_of_zero_le e.1
    exact ⟨kind_tab k (by omega), index_tab k (by omega)⟩
  · have hk : kdx z = -1 := by
      unfold kdx
      rw [if_neg (by omega), if_neg (by omega), if_neg (by omega), if_neg (by omega), if_neg (by omega), if_neg (by omega), if_neg (by omega)]
    rw [hk]
    exact ⟨kind_out hz (by omega), index_out hz (by omega)⟩

section TXT
variable {n : Nat} {X Y : Nat → Int32}
theorem s_here {p : Nat} (hp : p < n) (hn : n ≤ 60) : F_X3_signHere (I n) (I p) X = some (X p) := by
  have ecl : (I (p : Int)).toNatClampNeg = p := by rw [I_cl (by omega) (by omega)]; omega
  unfold F_X3_signHere
  rw [brn_neg _ _ (by rw [lit_0, I_lt (by omega) (by omega) (by omega) (by omega)]; omega), brn_neg _ _ (by rw [I_le (by omega) (by omega) (by omega) (by omega)]; omega), brn_neg _ _ (by rw [lit_60, I_le (by omega) (by omega) (by omega) (by omega)]; omega), grd_pos _ (by rw [I_inb (by omega) (by omega)]; omega), ecl]
theorem s_end {p : Nat} (hp : ¬ p < n) (hp2 : p ≤ 60) (hn : n ≤ 60) : F_X3_signHere (I n) (I p) X = some (I (-1)) := by
  unfold F_X3_signHere
  rw [brn_neg _ _ (by rw [lit_0, I_lt (by omega) (by omega) (by omega) (by omega)]; omega), brn_pos _ _ (by rw [I_le (by omega) (by omega) (by omega) (by omega)]; omega), m1]
/-- a digit stands there -/
def isD (n : Nat) (X : Nat → Int32) (p : Nat) (d : Int) : Prop := p < n ∧ 0 ≤ d ∧ d ≤ 9 ∧ X p = I (48 + d)
theorem D_or (n : Nat) (X : Nat → Int32) (p : Nat) : (∃ d, isD n X p d) ∨ (¬ p < n ∨ ∃ z : Int, InR z ∧ X p = I z ∧ ¬ (48 ≤ z ∧ z ≤ 57)) := by
  by_cases hp : p < n
  · obtain ⟨z, hz, e⟩ := I_ex (X p)
    by_cases q : 48 ≤ z ∧ z ≤ 57
    · exact Or.inl ⟨z - 48, hp, by omega, by omega, by rw [e]; congr 1; omega⟩
    · exact Or.inr (Or.inr ⟨z, hz, e, q⟩)
  · exact Or.inr (Or.inl hp)
theorem dh_p {p : Nat} {d : Int} (hn : n ≤ 60) (h : isD n X p d) : F_X3_digitHere (I n) (I p) X = some (I d) := by
  unfold F_X3_digitHere
  rw [s_here h.1 hn, bnd_some, h.2.2.2, show F_X11_isWithin (I (48 + d)) 48 57 = some (I 1) from (by rw [lit_48, lit_57]; exact I_in (by have := h.2; omega) (by omega) (by omega) (by have := h.2; omega)), bnd_some, brn_neg _ _ (by decide), lit_48, I_sub]
  congr 2
  omega
theorem dh_n {p : Nat} (hn : n ≤ 60) (hp : p ≤ 60) (h : ¬ p < n ∨ ∃ z : Int, InR z ∧ X p = I z ∧ ¬ (48 ≤ z ∧ z ≤ 57)) : F_X3_digitHere (I n) (I p) X = some (I (-1)) := by
  unfold F_X3_digitHere
  by_cases q : p < n
  · rcases h with h | ⟨z, hz, e, ne⟩
    · exact absurd q h
    · rw [s_here q hn, bnd_some, e, show F_X11_isWithin (I z) 48 57 = some (I 0) from (by rw [lit_48, lit_57]; exact I_out hz (by omega) (by omega) ne), bnd_some, brn_pos _ _ (by first | rfl | decide), m1]
  · rw [s_end q hp hn, bnd_some, show F_X11_isWithin (I (-1)) 48 57 = some (I 0) from (by rw [lit_48, lit_57]; exact I_out (by omega) (by omega) (by omega) (by omega)), bnd_some, brn_pos _ _ (by first | rfl | decide), m1]
theorem ih_p {p : Nat} {lo hi z : Int} (hn : n ≤ 60) (hp : p < n) (hz : Y p = I z) (hzr : InR z) (hlo : InR lo) (hhi : InR hi) (h : lo ≤ z ∧ z ≤ hi) : F_X12_isHere (I lo) (I hi) (I n) (I p) 0 Y = some 1 := by
  have ecl : (I (p : Int)).toNatClampNeg = p := by rw [I_cl (by omega) (by omega)]; omega
  unfold F_X12_isHere
  rw [brn_pos _ _ (by first | rfl | decide), brn_neg _ _ (by rw [I_le (by omega) (by omega) (by omega) (by omega)]; omega), grd_pos _ (by rw [I_inb (by omega) (by omega)]; omega), ecl, hz, I_min hzr hlo hhi h, bnd_some, brn_neg _ _ (by decide)]
theorem ih_n {p : Nat} {lo hi : Int} (hn : n ≤ 60) (hp : p ≤ 60) (hlo : InR lo) (hhi : InR hi) (h : ¬ p < n ∨ ∃ z : Int, InR z ∧ Y p = I z ∧ ¬ (lo ≤ z ∧ z ≤ hi)) : F_X12_isHere (I lo) (I hi) (I n) (I p) 0 Y = some 0 := by
  have ecl : (I (p : Int)).toNatClampNeg = p := by rw [I_cl (by omega) (by omega)]; omega
  unfold F_X12_isHere
  by_cases q : p < n
  · rcases h with h | ⟨z, hz, e, ne⟩
    · exact absurd q h
    · rw [brn_pos _ _ (by first | rfl | decide), brn_neg _ _ (by rw [I_le (by omega) (by omega) (by omega) (by omega)]; omega), grd_pos _ (by rw [I_inb (by omega) (by omega)]; omega), ecl, e, I_mout hz hlo hhi ne, bnd_some, brn_pos _ _ (by first | rfl | decide)]
  · rw [brn_pos _ _ (by first | rfl | decide), brn_pos _ _ (by rw [I_le (by omega) (by omega) (by omega) (by omega)]; omega)]
theorem sg_p {p : Nat} {lo hi z : Int} (hn : n ≤ 60) (hp : p < n) (hz : Y p = I z) (hzr : InR z) (hlo : InR lo) (hhi : InR hi) (h : lo ≤ z ∧ z ≤ hi) : F_X12_sign (I lo) (I hi) (I n) Y (I p) 0 = some (I (z - lo), I ((p + 1 : Nat) : Int), 0) := by
  have ecl : (I (p : Int)).toNatClampNeg = p := by rw [I_cl (by omega) (by omega)]; omega
  have kk : I (p : Int) + 1 = I ((p + 1 : Nat) : Int) := by rw [lit_1, I_add]; congr 1
  have kb : I ((p + 1 : Nat) : Int) - 1 = I (p : Int) := by rw [lit_1, I_sub]; congr 1; omega
  unfold F_X12_sign J_X12_sign_22
  rw [brn_pos _ _ (by first | rfl | decide), ih_p hn hp hz hzr hlo hhi h, bnd_some, brn_neg _ _ (by decide), grd_pos _ (Or.inl rfl), brn_pos _ _ (by first | rfl | decide), kk, kb, grd_pos _ (by rw [I_inb (by omega) (by omega)]; omega), ecl, hz, I_sub]
theorem sg_n {p : Nat} {lo hi : Int} (hn : n ≤ 60) (hp : p ≤ 60) (hlo : InR lo) (hhi : InR hi) (h : ¬ p < n ∨ ∃ z : Int, InR z ∧ Y p = I z ∧ ¬ (lo ≤ z ∧ z ≤ hi)) : F_X12_sign (I lo) (I hi) (I n) Y (I p) 0 = some (0, I p, 1) := by
  unfold F_X12_sign J_X12_sign_17 J_X12_sign_22
  rw [brn_pos _ _ (by first | rfl | decide), ih_n hn hp hlo hhi h, bnd_some, brn_pos _ _ (by first | rfl | decide), grd_pos _ (Or.inr rfl), brn_neg _ _ (by decide)]
theorem sg_w (lo hi L at_ : Int32) : F_X12_sign lo hi L Y at_ 1 = some (0, at_, 1) := by
  unfold F_X12_sign J_X12_sign_17 J_X12_sign_22
  rw [brn_neg _ _ (by decide), grd_pos _ (Or.inr rfl), brn_neg _ _ (by decide)]
theorem dt_w (L at_ : Int32) : F_X12_digit L Y at_ 1 = some (0, at_, 1) := by
  unfold F_X12_digit
  rw [sg_w, bnd_some]
theorem ih_w (lo hi L at_ : Int32) : F_X12_isHere lo hi L at_ 1 Y = some 0 := by
  unfold F_X12_isHere
  rw [brn_neg _ _ (by decide)]
theorem nb_w (L at_ : Int32) : F_X12_number L Y at_ 1 = some (0, at_, 1) := by
  unfold F_X12_number
  rw [dt_w, bnd_some, ih_w, bnd_some, brn_pos _ _ (by first | rfl | decide)]
/-- what both read as a digit -/
theorem dt_j {p : Nat} (hn : n ≤ 60) (hp : p ≤ n) (hXY : ∀ i, i < n → X i = Y i) : (∃ v : Int, 0 ≤ v ∧ v ≤ 99 ∧ ∃ q : Nat, p < q ∧ q ≤ n ∧ F_X3_readNumber 0 (I n) X (I p) = some (I v, I q) ∧ F_X12_digit (I n) Y (I p) 0 = some (I v, I q, 0)) ∨ (F_X3_readNumber 0 (I n) X (I p) = some (I (-1), I p) ∧ F_X12_digit (I n) Y (I p) 0 = some (0, I p, 1)) := by
  have kk : I (p : Int) + 1 = I ((p + 1 : Nat) : Int) := by rw [lit_1, I_add]; congr 1
  unfold F_X3_readNumber F_X12_digit J_X3_readNumber_34
  rcases D_or n X p with ⟨d, hd⟩ | h
  · have hd2 := hd.2
    refine Or.inl ⟨d, hd.2.1, by omega, p + 1, by omega, by have := hd.1; omega, ?_, ?_⟩
    · rw [dh_p hn hd, bnd_some, brn_neg _ _ (by rw [m1, I_eq (by omega) (by omega) (by omega) (by omega)]; omega), brn_pos _ _ (by first | rfl | decide), brn_pos _ _ (by first | rfl | decide), kk]
    · have := sg_p (Y := Y) (lo := 48) (hi := 57) (z := 48 + d) hn hd.1 (by rw [← hXY p hd.1]; exact hd.2.2.2) (by have := hd.2; omega) (by omega) (by omega) (by have := hd.2; omega)
      rw [← lit_48, ← lit_57] at this
      rw [this, bnd_some, show 48 + d - 48 = d by omega]
  · refine Or.inr ⟨?_, ?_⟩
    · rw [dh_n hn (by omega) h, bnd_some, brn_pos _ _ (by rw [m1]), m1]
    · have h2 : ¬ p < n ∨ ∃ z : Int, InR z ∧ Y p = I z ∧ ¬ (48 ≤ z ∧ z ≤ 57) := by
        by_cases q : p < n
        · rw [← hXY p q]; exact h
        · exact Or.inl q
      have := sg_n (Y := Y) (lo := 48) (hi := 57) hn (show p ≤ 60 by omega) (by omega) (by omega) h2
      rw [← lit_48, ← lit_57] at this
      rw [this, bnd_some]
/-- what both read as a number of one or two digits -/
theorem nb_j {p : Nat} (hn : n ≤ 60) (hp : p ≤ n) (hXY : ∀ i, i < n → X i = Y i) : (∃ v : Int, 0 ≤ v ∧ v ≤ 99 ∧ ∃ q : Nat, p < q ∧ q ≤ n ∧ F_X3_readNumber 1 (I n) X (I p) = some (I v, I q) ∧ F_X12_number (I n) Y (I p) 0 = some (I v, I q, 0)) ∨ (F_X3_readNumber 1 (I n) X (I p) = some (I (-1), I p) ∧ F_X12_number (I n) Y (I p) 0 = some (0, I p, 1)) := by
  have kk : I (p : Int) + 1 = I ((p + 1 : Nat) : Int) := by rw [lit_1, I_add]; congr 1
  have kk2 : I ((p + 1 : Nat) : Int) + 1 = I ((p + 1 + 1 : Nat) : Int) := by rw [lit_1, I_add]; congr 1
  have toY : ∀ q : Nat, (¬ q < n ∨ ∃ z : Int, InR z ∧ X q = I z ∧ ¬ (48 ≤ z ∧ z ≤ 57)) → (¬ q < n ∨ ∃ z : Int, InR z ∧ Y q = I z ∧ ¬ (48 ≤ z ∧ z ≤ 57)) := by
    intro q h
    by_cases e : q < n
    · rw [← hXY q e]; exact h
    · exact Or.inl e
  have dg1 : ∀ (q : Nat) (d : Int), isD n X q d → F_X12_digit (I n) Y (I q) 0 = some (I d, I ((q + 1 : Nat) : Int), 0) := by
    intro q d hd
    have := sg_p (Y := Y) (lo := 48) (hi := 57) (z := 48 + d) hn hd.1 (by rw [← hXY q hd.1]; exact hd.2.2.2) (by have := hd.2; omega) (by omega) (by omega) (by have := hd.2; omega)
    unfold F_X12_digit
    rw [← lit_48, ← lit_57] at this
    rw [this, bnd_some, show 48 + d - 48 = d by omega]
  unfold F_X3_readNumber F_X12_number J_X3_readNumber_34
  rcases D_or n X p with ⟨d, hd⟩ | h
  · have hd2 := hd.2
    rw [dg1 p d hd, bnd_some, dh_p hn hd, bnd_some, brn_neg _ _ (by rw [m1, I_eq (by omega) (by omega) (by omega) (by omega)]; omega), brn_neg _ _ (by decide), kk]
    dsimp only
    rcases D_or n X (p + 1) with ⟨d2, he⟩ | h
    · have he2 := he.2
      have hh := ih_p (Y := Y) (lo := 48) (hi := 57) (z := 48 + d2) hn he.1 (by rw [← hXY _ he.1]; exact he.2.2.2) (by omega) (by omega) (by omega) (by omega)
      refine Or.inl ⟨10 * d + d2, by omega, by omega, p + 1 + 1, by omega, by have := he.1; omega, ?_, ?_⟩
      · rw [dh_p hn he, bnd_some, brn_neg _ _ (by rw [m1, I_eq (by omega) (by omega) (by omega) (by omega)]; omega), kk2, lit_10, I_mul, I_add]
      · rw [← lit_48, ← lit_57] at hh
        rw [hh, bnd_some, brn_neg _ _ (by decide), dg1 (p + 1) d2 he, bnd_some, lit_10, I_mul, I_add]
    · have hh := ih_n (Y := Y) (lo := 48) (hi := 57) hn (show p + 1 ≤ 60 by have := hd.1; omega) (by omega) (by omega) (toY _ h)
      refine Or.inl ⟨d, by omega, by omega, p + 1, by omega, by have := hd.1; omega, ?_, ?_⟩
      · rw [dh_n hn (by have := hd.1; omega) h, bnd_some, brn_pos _ _ (by rw [m1])]
      · rw [← lit_48, ← lit_57] at hh
        rw [hh, bnd_some, brn_pos _ _ (by first | rfl | decide)]
  · have := sg_n (Y := Y) (lo := 48) (hi := 57) hn (show p ≤ 60 by omega) (by omega) (by omega) (toY _ h)
    have dw : F_X12_digit (I n) Y (I p) 0 = some (0, I p, 1) := by
      unfold F_X12_digit
      rw [← lit_48, ← lit_57] at this
      rw [this, bnd_some]
    refine Or.inr ⟨?_, ?_⟩
    · rw [dh_n hn (by omega) h, bnd_some, brn_pos _ _ (by rw [m1]), m1]
    · rw [dw, bnd_some, ih_w, bnd_some, brn_pos _ _ (by first | rfl | decide)]
/-- one sign that both want -/
theorem sg_j {p : Nat} {z : Int} (hz : 0 ≤ z ∧ z ≤ 255) (hn : n ≤ 60) (hp : p ≤ n) (hXY : ∀ i, i < n → X i = Y i) : (∃ u : Int32, p + 1 ≤ n ∧ F_X3_readSign (I z) (I n) X (I p) = some (1, I ((p + 1 : Nat) : Int)) ∧ F_X12_sign (I z) (I z) (I n) Y (I p) 0 = some (u, I ((p + 1 : Nat) : Int), 0) ∧ F_X12_isHere (I z) (I z) (I n) (I p) 0 Y = some 1) ∨ (F_X3_readSign (I z) (I n) X (I p) = some (0, I p) ∧ F_X12_sign (I z) (I z) (I n) Y (I p) 0 = some (0, I p, 1) ∧ F_X12_isHere (I z) (I z) (I n) (I p) 0 Y = some 0) := by
  have kk : I (p : Int) + 1 = I ((p + 1 : Nat) : Int) := by rw [lit_1, I_add]; congr 1
  unfold F_X3_readSign
  by_cases hp2 : p < n
  · obtain ⟨w, hw, e⟩ := I_ex (X p)
    have e2 : Y p = I w := by rw [← hXY p hp2]; exact e
    rw [s_here hp2 hn, bnd_some, e]
    by_cases q : w = z
    · refine Or.inl ⟨I (w - z), by omega, ?_, ?_, ?_⟩
      · rw [brn_pos _ _ (by rw [q]), kk]
      · exact sg_p hn hp2 e2 hw (by omega) (by omega) (by omega)
      · exact ih_p hn hp2 e2 hw (by omega) (by omega) (by omega)
    · refine Or.inr ⟨?_, ?_, ?_⟩
      · rw [brn_neg _ _ (by rw [I_eq hw.1 hw.2 (by omega) (by omega)]; exact q)]
      · exact sg_n hn (by omega) (by omega) (by omega) (Or.inr ⟨w, hw, e2, by omega⟩)
      · exact ih_n hn (by omega) (by omega) (by omega) (Or.inr ⟨w, hw, e2, by omega⟩)
  · refine Or.inr ⟨?_, ?_, ?_⟩
    · rw [s_end hp2 (by omega) hn, bnd_some, brn_neg _ _ (by rw [I_eq (by omega) (by omega) (by omega) (by omega)]; omega)]
    · exact sg_n hn (by omega) (by omega) (by omega) (Or.inl hp2)
    · exact ih_n hn (by omega) (by omega) (by omega) (Or.inl hp2)
end TXT

section FRS
variable {n c : Nat} {X : Nat → Int32}
/-! ===== the class's forms, step by step ===== -/
theorem rf_6_0 (hc : c < 60) (f : Nat) (pl : Int32) (N : Nat → Int32) : L_X3_readForm_4 6 (I n) (I c) X (f + 1) 0 0 pl N = bnd (F_X3_readNumber 1 (I n) X pl) (fun o7 => brn (o7.1 = -1) (some (0, 0, o7.2, N)) (L_X3_readForm_4 6 (I n) (I c) X f 1 1 o7.2 (upd N (3 * c + 0) o7.1))) := by
  have ei : 3 * I (c : Int) + 0 = I ((3 * c + 0 : Nat) : Int) := by
    rw [lit_3, lit_0, I_mul, I_add]
    congr 1
  have pu : ∀ v, F_X7_put 180 (I ((3 * c + 0 : Nat) : Int)) v N = some (upd N (3 * c + 0) v) := fun v => x_put (N := 180) (by decide) (by omega) v
  rw [L_X3_readForm_4, grd_pos _ (by decide), show F_J0_length_8abf5 6 = some 5 by decide, bnd_some, brn_neg _ _ (by decide), grd_pos _ (by decide), show F_J0_charAt_5068e 6 0 = some 50 by decide, bnd_some, brn_neg _ _ (by decide), brn_pos _ _ (by first | rfl | decide)]
  unfold J_X3_readForm_44 J_X3_readForm_57
  rw [brn_pos _ _ (by first | rfl | decide), ei, show (0 : Int32) + 1 = 1 by decide]
  simp only [pu, bnd_some]
theorem rf_6_1 (f : Nat) (pl : Int32) (N : Nat → Int32) : L_X3_readForm_4 6 (I n) (I c) X (f + 1) 1 1 pl N = bnd (F_X3_readSign 47 (I n) X pl) (fun o11 => brn (o11.1 = 0) (some (0, 0, o11.2, N)) (L_X3_readForm_4 6 (I n) (I c) X f 1 2 o11.2 N)) := by
  rw [L_X3_readForm_4, grd_pos _ (by decide), show F_J0_length_8abf5 6 = some 5 by decide, bnd_some, brn_neg _ _ (by decide), grd_pos _ (by decide), show F_J0_charAt_5068e 6 1 = some 47 by decide, bnd_some, brn_neg _ _ (by decide), brn_neg _ _ (by decide), show (1 : Int32) + 1 = 2 by decide]
theorem rf_6_2 (hc : c < 60) (f : Nat) (pl : Int32) (N : Nat → Int32) : L_X3_readForm_4 6 (I n) (I c) X (f + 1) 1 2 pl N = bnd (F_X3_readNumber 1 (I n) X pl) (fun o7 => brn (o7.1 = -1) (some (0, 0, o7.2, N)) (L_X3_readForm_4 6 (I n) (I c) X f 2 3 o7.2 (upd N (3 * c + 1) o7.1))) := by
  have ei : 3 * I (c : Int) + 1 = I ((3 * c + 1 : Nat) : Int) := by
    rw [lit_3, lit_1, I_mul, I_add]
    congr 1
  have pu : ∀ v, F_X7_put 180 (I ((3 * c + 1 : Nat) : Int)) v N = some (upd N (3 * c + 1) v) := fun v => x_put (N := 180) (by decide) (by omega) v
  rw [L_X3_readForm_4, grd_pos _ (by decide), show F_J0_length_8abf5 6 = some 5 by decide, bnd_some, brn_neg _ _ (by decide), grd_pos _ (by decide), show F_J0_charAt_5068e 6 2 = some 50 by decide, bnd_some, brn_neg _ _ (by decide), brn_pos _ _ (by first | rfl | decide)]
  unfold J_X3_readForm_44 J_X3_readForm_57
  rw [brn_pos _ _ (by first | rfl | decide), ei, show (1 : Int32) + 1 = 2 by decide, show (2 : Int32) + 1 = 3 by decide]
  simp only [pu, bnd_some]
theorem rf_6_3 (f : Nat) (pl : Int32) (N : Nat → Int32) : L_X3_readForm_4 6 (I n) (I c) X (f + 1) 2 3 pl N = bnd (F_X3_readSign 45 (I n) X pl) (fun o11 => brn (o11.1 = 0) (some (0, 0, o11.2, N)) (L_X3_readForm_4 6 (I n) (I c) X f 2 4 o11.2 N)) := by
  rw [L_X3_readForm_4, grd_pos _ (by decide), show F_J0_length_8abf5 6 = some 5 by decide, bnd_some, brn_neg _ _ (by decide), grd_pos _ (by decide), show F_J0_charAt_5068e 6 3 = some 45 by decide, bnd_some, brn_neg _ _ (by decide), brn_neg _ _ (by decide), show (3 : Int32) + 1 = 4 by decide]
theorem rf_6_4 (hc : c < 60) (f : Nat) (pl : Int32) (N : Nat → Int32) : L_X3_readForm_4 6 (I n) (I c) X (f + 1) 2 4 pl N = bnd (F_X3_readNumber 1 (I n) X pl) (fun o7 => brn (o7.1 = -1) (some (0, 0, o7.2, N)) (L_X3_readForm_4 6 (I n) (I c) X f 3 5 o7.2 (upd N (3 * c + 2) o7.1))) := by
  have ei : 3 * I (c : Int) + 2 = I ((3 * c + 2 : Nat) : Int) := by
    rw [lit_3, lit_2, I_mul, I_add]
    congr 1
  have pu : ∀ v, F_X7_put 180 (I ((3 * c + 2 : Nat) : Int)) v N = some (upd N (3 * c + 2) v) := fun v => x_put (N := 180) (by decide) (by omega) v
  rw [L_X3_readForm_4, grd_pos _ (by decide), show F_J0_length_8abf5 6 = some 5 by decide, bnd_some, brn_neg _ _ (by decide), grd_pos _ (by decide), show F_J0_charAt_5068e 6 4 = some 50 by decide, bnd_some, brn_neg _ _ (by decide), brn_pos _ _ (by first | rfl | decide)]
  unfold J_X3_readForm_44 J_X3_readForm_57
  rw [brn_pos _ _ (by first | rfl | decide), ei, show (2 : Int32) + 1 = 3 by decide, show (4 : Int32) + 1 = 5 by decide]
  simp only [pu, bnd_some]
theorem rf_6_e (f : Nat) (pl : Int32) (N : Nat → Int32) : L_X3_readForm_4 6 (I n) (I c) X (f + 1) 3 5 pl N = some (0, 1, pl, N) := by
  rw [L_X3_readForm_4, grd_pos _ (by decide), show F_J0_length_8abf5 6 = some 5 by decide, bnd_some, brn_pos _ _ (by decide)]
theorem rf_7_0 (hc : c < 60) (f : Nat) (pl : Int32) (N : Nat → Int32) : L_X3_readForm_4 7 (I n) (I c) X (f + 1) 0 0 pl N = bnd (F_X3_readNumber 0 (I n) X pl) (fun o7 => brn (o7.1 = -1) (some (0, 0, o7.2, N)) (L_X3_readForm_4 7 (I n) (I c) X f 1 1 o7.2 (upd N (3 * c + 0) o7.1))) := by
  have ei : 3 * I (c : Int) + 0 = I ((3 * c + 0 : Nat) : Int) := by
    rw [lit_3, lit_0, I_mul, I_add]
    congr 1
  have pu : ∀ v, F_X7_put 180 (I ((3 * c + 0 : Nat) : Int)) v N = some (upd N (3 * c + 0) v) := fun v => x_put (N := 180) (by decide) (by omega) v
  rw [L_X3_readForm_4, grd_pos _ (by decide), show F_J0_length_8abf5 7 = some 5 by decide, bnd_some, brn_neg _ _ (by decide), grd_pos _ (by decide), show F_J0_charAt_5068e 7 0 = some 49 by decide, bnd_some, brn_pos _ _ (by first | rfl | decide)]
  unfold J_X3_readForm_44 J_X3_readForm_57
  rw [brn_neg _ _ (by decide), ei, show (0 : Int32) + 1 = 1 by decide]
  simp only [pu, bnd_some]
theorem rf_7_1 (f : Nat) (pl : Int32) (N : Nat → Int32) : L_X3_readForm_4 7 (I n) (I c) X (f + 1) 1 1 pl N = bnd (F_X3_readSign 58 (I n) X pl) (fun o11 => brn (o11.1 = 0) (some (0, 0, o11.2, N)) (L_X3_readForm_4 7 (I n) (I c) X f 1 2 o11.2 N)) := by
  rw [L_X3_readForm_4, grd_pos _ (by decide), show F_J0_length_8abf5 7 = some 5 by decide, bnd_some, brn_neg _ _ (by decide), grd_pos _ (by decide), show F_J0_charAt_5068e 7 1 = some 58 by decide, bnd_some, brn_neg _ _ (by decide), brn_neg _ _ (by decide), show (1 : Int32) + 1 = 2 by decide]
theorem rf_7_2 (hc : c < 60) (f : Nat) (pl : Int32) (N : Nat → Int32) : L_X3_readForm_4 7 (I n) (I c) X (f + 1) 1 2 pl N = bnd (F_X3_readNumber 0 (I n) X pl) (fun o7 => brn (o7.1 = -1) (some (0, 0, o7.2, N)) (L_X3_readForm_4 7 (I n) (I c) X f 2 3 o7.2 (upd N (3 * c + 1) o7.1))) := by
  have ei : 3 * I (c : Int) + 1 = I ((3 * c + 1 : Nat) : Int) := by
    rw [lit_3, lit_1, I_mul, I_add]
    congr 1
  have pu : ∀ v, F_X7_put 180 (I ((3 * c + 1 : Nat) : Int)) v N = some (upd N (3 * c + 1) v) := fun v => x_put (N := 180) (by decide) (by omega) v
  rw [L_X3_readForm_4, grd_pos _ (by decide), show F_J0_length_8abf5 7 = some 5 by decide, bnd_some, brn_neg _ _ (by decide), grd_pos _ (by decide), show F_J0_charAt_5068e 7 2 = some 49 by decide, bnd_some, brn_pos _ _ (by first | rfl | decide)]
  unfold J_X3_readForm_44 J_X3_readForm_57
  rw [brn_neg _ _ (by decide), ei, show (1 : Int32) + 1 = 2 by decide, show (2 : Int32) + 1 = 3 by decide]
  simp only [pu, bnd_some]
theorem rf_7_3 (f : Nat) (pl : Int32) (N : Nat → Int32) : L_X3_readForm_4 7 (I n) (I c) X (f + 1) 2 3 pl N = bnd (F_X3_readSign 45 (I n) X pl) (fun o11 => brn (o11.1 = 0) (some (0, 0, o11.2, N)) (L_X3_readForm_4 7 (I n) (I c) X f 2 4 o11.2 N)) := by
  rw [L_X3_readForm_4, grd_pos _ (by decide), show F_J0_length_8abf5 7 = some 5 by decide, bnd_some, brn_neg _ _ (by decide), grd_pos _ (by decide), show F_J0_charAt_5068e 7 3 = some 45 by decide, bnd_some, brn_neg _ _ (by decide), brn_neg _ _ (by decide), show (3 : Int32) + 1 = 4 by decide]
theorem rf_7_4 (hc : c < 60) (f : Nat) (pl : Int32) (N : Nat → Int32) : L_X3_readForm_4 7 (I n) (I c) X (f + 1) 2 4 pl N = bnd (F_X3_readNumber 0 (I n) X pl) (fun o7 => brn (o7.1 = -1) (some (0, 0, o7.2, N)) (L_X3_readForm_4 7 (I n) (I c) X f 3 5 o7.2 (upd N (3 * c + 2) o7.1))) := by
  have ei : 3 * I (c : Int) + 2 = I ((3 * c + 2 : Nat) : Int) := by
    rw [lit_3, lit_2, I_mul, I_add]
    congr 1
  have pu : ∀ v, F_X7_put 180 (I ((3 * c + 2 : Nat) : Int)) v N = some (upd N (3 * c + 2) v) := fun v => x_put (N := 180) (by decide) (by omega) v
  rw [L_X3_readForm_4, grd_pos _ (by decide), show F_J0_length_8abf5 7 = some 5 by decide, bnd_some, brn_neg _ _ (by decide), grd_pos _ (by decide), show F_J0_charAt_5068e 7 4 = some 49 by decide, bnd_some, brn_pos _ _ (by first | rfl | decide)]
  unfold J_X3_readForm_44 J_X3_readForm_57
  rw [brn_neg _ _ (by decide), ei, show (2 : Int32) + 1 = 3 by decide, show (4 : Int32) + 1 = 5 by decide]
  simp only [pu, bnd_some]
theorem rf_7_e (f : Nat) (pl : Int32) (N : Nat → Int32) : L_X3_readForm_4 7 (I n) (I c) X (f + 1) 3 5 pl N = some (0, 1, pl, N) := by
  rw [L_X3_readForm_4, grd_pos _ (by decide), show F_J0_length_8abf5 7 = some 5 by decide, bnd_some, brn_pos _ _ (by decide)]
theorem rf_8_0 (hc : c < 60) (f : Nat) (pl : Int32) (N : Nat → Int32) : L_X3_readForm_4 8 (I n) (I c) X (f + 1) 0 0 pl N = bnd (F_X3_readNumber 0 (I n) X pl) (fun o7 => brn (o7.1 = -1) (some (0, 0, o7.2, N)) (L_X3_readForm_4 8 (I n) (I c) X f 1 1 o7.2 (upd N (3 * c + 0) o7.1))) := by
  have ei : 3 * I (c : Int) + 0 = I ((3 * c + 0 : Nat) : Int) := by
    rw [lit_3, lit_0, I_mul, I_add]
    congr 1
  have pu : ∀ v, F_X7_put 180 (I ((3 * c + 0 : Nat) : Int)) v N = some (upd N (3 * c + 0) v) := fun v => x_put (N := 180) (by decide) (by omega) v
  rw [L_X3_readForm_4, grd_pos _ (by decide), show F_J0_length_8abf5 8 = some 5 by decide, bnd_some, brn_neg _ _ (by decide), grd_pos _ (by decide), show F_J0_charAt_5068e 8 0 = some 49 by decide, bnd_some, brn_pos _ _ (by first | rfl | decide)]
  unfold J_X3_readForm_44 J_X3_readForm_57
  rw [brn_neg _ _ (by decide), ei, show (0 : Int32) + 1 = 1 by decide]
  simp only [pu, bnd_some]
theorem rf_8_1 (f : Nat) (pl : Int32) (N : Nat → Int32) : L_X3_readForm_4 8 (I n) (I c) X (f + 1) 1 1 pl N = bnd (F_X3_readSign 58 (I n) X pl) (fun o11 => brn (o11.1 = 0) (some (0, 0, o11.2, N)) (L_X3_readForm_4 8 (I n) (I c) X f 1 2 o11.2 N)) := by
  rw [L_X3_readForm_4, grd_pos _ (by decide), show F_J0_length_8abf5 8 = some 5 by decide, bnd_some, brn_neg _ _ (by decide), grd_pos _ (by decide), show F_J0_charAt_5068e 8 1 = some 58 by decide, bnd_some, brn_neg _ _ (by decide), brn_neg _ _ (by decide), show (1 : Int32) + 1 = 2 by decide]
theorem rf_8_2 (hc : c < 60) (f : Nat) (pl : Int32) (N : Nat → Int32) : L_X3_readForm_4 8 (I n) (I c) X (f + 1) 1 2 pl N = bnd (F_X3_readNumber 0 (I n) X pl) (fun o7 => brn (o7.1 = -1) (some (0, 0, o7.2, N)) (L_X3_readForm_4 8 (I n) (I c) X f 2 3 o7.2 (upd N (3 * c + 1) o7.1))) := by
  have ei : 3 * I (c : Int) + 1 = I ((3 * c + 1 : Nat) : Int) := by
    rw [lit_3, lit_1, I_mul, I_add]
    congr 1
  have pu : ∀ v, F_X7_put 180 (I ((3 * c + 1 : Nat) : Int)) v N = some (upd N (3 * c + 1) v) := fun v => x_put (N := 180) (by decide) (by omega) v
  rw [L_X3_readForm_4, grd_pos _ (by decide), show F_J0_length_8abf5 8 = some 5 by decide, bnd_some, brn_neg _ _ (by decide), grd_pos _ (by decide), show F_J0_charAt_5068e 8 2 = some 49 by decide, bnd_some, brn_pos _ _ (by first | rfl | decide)]
  unfold J_X3_readForm_44 J_X3_readForm_57
  rw [brn_neg _ _ (by decide), ei, show (1 : Int32) + 1 = 2 by decide, show (2 : Int32) + 1 = 3 by decide]
  simp only [pu, bnd_some]
theorem rf_8_3 (f : Nat) (pl : Int32) (N : Nat → Int32) : L_X3_readForm_4 8 (I n) (I c) X (f + 1) 2 3 pl N = bnd (F_X3_readSign 43 (I n) X pl) (fun o11 => brn (o11.1 = 0) (some (0, 0, o11.2, N)) (L_X3_readForm_4 8 (I n) (I c) X f 2 4 o11.2 N)) := by
  rw [L_X3_readForm_4, grd_pos _ (by decide), show F_J0_length_8abf5 8 = some 5 by decide, bnd_some, brn_neg _ _ (by decide), grd_pos _ (by decide), show F_J0_charAt_5068e 8 3 = some 43 by decide, bnd_some, brn_neg _ _ (by decide), brn_neg _ _ (by decide), show (3 : Int32) + 1 = 4 by decide]
theorem rf_8_4 (hc : c < 60) (f : Nat) (pl : Int32) (N : Nat → Int32) : L_X3_readForm_4 8 (I n) (I c) X (f + 1) 2 4 pl N = bnd (F_X3_readNumber 0 (I n) X pl) (fun o7 => brn (o7.1 = -1) (some (0, 0, o7.2, N)) (L_X3_readForm_4 8 (I n) (I c) X f 3 5 o7.2 (upd N (3 * c + 2) o7.1))) := by
  have ei : 3 * I (c : Int) + 2 = I ((3 * c + 2 : Nat) : Int) := by
    rw [lit_3, lit_2, I_mul, I_add]
    congr 1
  have pu : ∀ v, F_X7_put 180 (I ((3 * c + 2 : Nat) : Int)) v N = some (upd N (3 * c + 2) v) := fun v => x_put (N := 180) (by decide) (by omega) v
  rw [L_X3_readForm_4, grd_pos _ (by decide), show F_J0_length_8abf5 8 = some 5 by decide, bnd_some, brn_neg _ _ (by decide), grd_pos _ (by decide), show F_J0_charAt_5068e 8 4 = some 49 by decide, bnd_some, brn_pos _ _ (by first | rfl | decide)]
  unfold J_X3_readForm_44 J_X3_readForm_57
  rw [brn_neg _ _ (by decide), ei, show (2 : Int32) + 1 = 3 by decide, show (4 : Int32) + 1 = 5 by decide]
  simp only [pu, bnd_some]
theorem rf_8_e (f : Nat) (pl : Int32) (N : Nat → Int32) : L_X3_readForm_4 8 (I n) (I c) X (f + 1) 3 5 pl N = some (0, 1, pl, N) := by
  rw [L_X3_readForm_4, grd_pos _ (by decide), show F_J0_length_8abf5 8 = some 5 by decide, bnd_some, brn_pos _ _ (by decide)]
theorem rf_9_0 (hc : c < 60) (f : Nat) (pl : Int32) (N : Nat → Int32) : L_X3_readForm_4 9 (I n) (I c) X (f + 1) 0 0 pl N = bnd (F_X3_readNumber 0 (I n) X pl) (fun o7 => brn (o7.1 = -1) (some (0, 0, o7.2, N)) (L_X3_readForm_4 9 (I n) (I c) X f 1 1 o7.2 (upd N (3 * c + 0) o7.1))) := by
  have ei : 3 * I (c : Int) + 0 = I ((3 * c + 0 : Nat) : Int) := by
    rw [lit_3, lit_0, I_mul, I_add]
    congr 1
  have pu : ∀ v, F_X7_put 180 (I ((3 * c + 0 : Nat) : Int)) v N = some (upd N (3 * c + 0) v) := fun v => x_put (N := 180) (by decide) (by omega) v
  rw [L_X3_readForm_4, grd_pos _ (by decide), show F_J0_length_8abf5 9 = some 3 by decide, bnd_some, brn_neg _ _ (by decide), grd_pos _ (by decide), show F_J0_charAt_5068e 9 0 = some 49 by decide, bnd_some, brn_pos _ _ (by first | rfl | decide)]
  unfold J_X3_readForm_44 J_X3_readForm_57
  rw [brn_neg _ _ (by decide), ei, show (0 : Int32) + 1 = 1 by decide]
  simp only [pu, bnd_some]
theorem rf_9_1 (f : Nat) (pl : Int32) (N : Nat → Int32) : L_X3_readForm_4 9 (I n) (I c) X (f + 1) 1 1 pl N = bnd (F_X3_readSign 61 (I n) X pl) (fun o11 => brn (o11.1 = 0) (some (0, 0, o11.2, N)) (L_X3_readForm_4 9 (I n) (I c) X f 1 2 o11.2 N)) := by
  rw [L_X3_readForm_4, grd_pos _ (by decide), show F_J0_length_8abf5 9 = some 3 by decide, bnd_some, brn_neg _ _ (by decide), grd_pos _ (by decide), show F_J0_charAt_5068e 9 1 = some 61 by decide, bnd_some, brn_neg _ _ (by decide), brn_neg _ _ (by decide), show (1 : Int32) + 1 = 2 by decide]
theorem rf_9_2 (hc : c < 60) (f : Nat) (pl : Int32) (N : Nat → Int32) : L_X3_readForm_4 9 (I n) (I c) X (f + 1) 1 2 pl N = bnd (F_X3_readNumber 1 (I n) X pl) (fun o7 => brn (o7.1 = -1) (some (0, 0, o7.2, N)) (L_X3_readForm_4 9 (I n) (I c) X f 2 3 o7.2 (upd N (3 * c + 1) o7.1))) := by
  have ei : 3 * I (c : Int) + 1 = I ((3 * c + 1 : Nat) : Int) := by
    rw [lit_3, lit_1, I_mul, I_add]
    congr 1
  have pu : ∀ v, F_X7_put 180 (I ((3 * c + 1 : Nat) : Int)) v N = some (upd N (3 * c + 1) v) := fun v => x_put (N := 180) (by decide) (by omega) v
  rw [L_X3_readForm_4, grd_pos _ (by decide), show F_J0_length_8abf5 9 = some 3 by decide, bnd_some, brn_neg _ _ (by decide), grd_pos _ (by decide), show F_J0_charAt_5068e 9 2 = some 50 by decide, bnd_some, brn_neg _ _ (by decide), brn_pos _ _ (by first | rfl | decide)]
  unfold J_X3_readForm_44 J_X3_readForm_57
  rw [brn_pos _ _ (by first | rfl | decide), ei, show (1 : Int32) + 1 = 2 by decide, show (2 : Int32) + 1 = 3 by decide]
  simp only [pu, bnd_some]
theorem rf_9_e (f : Nat) (pl : Int32) (N : Nat → Int32) : L_X3_readForm_4 9 (I n) (I c) X (f + 1) 2 3 pl N = some (0, 1, pl, N) := by
  rw [L_X3_readForm_4, grd_pos _ (by decide), show F_J0_length_8abf5 9 = some 3 by decide, bnd_some, brn_pos _ _ (by decide)]
theorem rf_10_0 (hc : c < 60) (f : Nat) (pl : Int32) (N : Nat → Int32) : L_X3_readForm_4 10 (I n) (I c) X (f + 1) 0 0 pl N = bnd (F_X3_readNumber 1 (I n) X pl) (fun o7 => brn (o7.1 = -1) (some (0, 0, o7.2, N)) (L_X3_readForm_4 10 (I n) (I c) X f 1 1 o7.2 (upd N (3 * c + 0) o7.1))) := by
  have ei : 3 * I (c : Int) + 0 = I ((3 * c + 0 : Nat) : Int) := by
    rw [lit_3, lit_0, I_mul, I_add]
    congr 1
  have pu : ∀ v, F_X7_put 180 (I ((3 * c + 0 : Nat) : Int)) v N = some (upd N (3 * c + 0) v) := fun v => x_put (N := 180) (by decide) (by omega) v
  rw [L_X3_readForm_4, grd_pos _ (by decide), show F_J0_length_8abf5 10 = some 1 by decide, bnd_some, brn_neg _ _ (by decide), grd_pos _ (by decide), show F_J0_charAt_5068e 10 0 = some 50 by decide, bnd_some, brn_neg _ _ (by decide), brn_pos _ _ (by first | rfl | decide)]
  unfold J_X3_readForm_44 J_X3_readForm_57
  rw [brn_pos _ _ (by first | rfl | decide), ei, show (0 : Int32) + 1 = 1 by decide]
  simp only [pu, bnd_some]
theorem rf_10_e (f : Nat) (pl : Int32) (N : Nat → Int32) : L_X3_readForm_4 10 (I n) (I c) X (f + 1) 1 1 pl N = some (0, 1, pl, N) := by
  rw [L_X3_readForm_4, grd_pos _ (by decide), show F_J0_length_8abf5 10 = some 1 by decide, bnd_some, brn_pos _ _ (by decide)]
end FRS
