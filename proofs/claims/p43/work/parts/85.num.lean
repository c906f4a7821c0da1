/-! ===== the script's numbers ===== -/
theorem u_I {u : UInt32} (h : u.toNat < 2147483648) : u.toInt32 = I (u.toNat : Int) := by
  apply Int32.toInt_inj.mp
  rw [I_toInt (by omega) (by omega)]
  show u.toBitVec.toInt = _
  rw [BitVec.toInt_eq_toNat_of_lt (by show 2 * u.toNat < 2 ^ 32; omega)]
  rfl
theorem ushr_I (z y : Int32) (hy : 1 ≤ (y.toUInt32 &&& Int32.toUInt32 31).toNat) : ∃ a : Int, ushr z y = I a ∧ 0 ≤ a ∧ a < 2147483648 := by
  have hk : (y.toUInt32 &&& Int32.toUInt32 31).toNat ≤ 31 := by
    rw [UInt32.toNat_and]
    exact Nat.and_le_right
  have hu : (z.toUInt32 >>> (y.toUInt32 &&& Int32.toUInt32 31)).toNat < 2147483648 := by
    rw [UInt32.toNat_shiftRight, Nat.mod_eq_of_lt (by omega), Nat.shiftRight_eq_div_pow]
    have h1 : z.toUInt32.toNat < 2 ^ 32 := UInt32.toNat_lt _
    have h2 : 2 ^ 1 ≤ 2 ^ (y.toUInt32 &&& Int32.toUInt32 31).toNat := Nat.pow_le_pow_right (by omega) hy
    refine Nat.div_lt_of_lt_mul ?_
    have h3 : 2 ^ 1 * 2147483648 ≤ 2 ^ (y.toUInt32 &&& Int32.toUInt32 31).toNat * 2147483648 := Nat.mul_le_mul_right _ h2
    omega
  exact ⟨_, u_I hu, by omega, by omega⟩
theorem ofN_I {L : Nat} (h : L < 2147483648) : Int32.ofNat L = I (L : Int) := by
  apply Int32.toInt_inj.mp
  rw [I_toInt (by omega) (by omega)]
  exact nI_toInt (by omega)
theorem l_cell {L : Nat} (hL : L ≤ 260) (xs : Nat → Int32) {k : Int} (h0 : 0 ≤ k) (h1 : k < 1000) : ∃ z : Int32, F_L_cell L xs (I k) = some z := by
  unfold F_L_cell
  rw [ofN_I (by omega)]
  by_cases e : (L : Int) ≤ k
  · rw [brn_pos _ _ (by rw [I_le (by omega) (by omega) (by omega) (by omega)]; exact e)]
    exact ⟨_, rfl⟩
  · rw [brn_neg _ _ (by rw [I_le (by omega) (by omega) (by omega) (by omega)]; exact e), grd_pos _ (by rw [I_inb (by omega) (by omega)]; omega)]
    exact ⟨_, rfl⟩
