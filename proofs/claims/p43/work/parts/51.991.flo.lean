/-! ===== numbers of floating point: what is no NaN ===== -/
theorem cst32 : FP.Core.b32.tails = 8388608 ∧ FP.Core.b32.exps = 256 ∧ FP.Core.b32.qmin = (-149) ∧ FP.Core.b32.qmax = 104 ∧ 2 ^ FP.Core.b32.p = 16777216 ∧ FP.Core.b32.p = 24 := ⟨rfl, rfl, rfl, rfl, rfl, rfl⟩
def okD32 (d : FP.Core.Datum) : Prop := match d with
  | .nan => False
  | .inf _ => True
  | .fin _ c q => c < 16777216 ∧ q ≤ 104
theorem enc32 {d : FP.Core.Datum} (h : okD32 d) : FP.Core.encode FP.Core.b32 d % 2147483648 ≤ 2139095040 ∧ FP.Core.encode FP.Core.b32 d < 4294967296 := by
  obtain ⟨e1, e2, e3, e4, e5, e6⟩ := cst32
  cases d with
  | nan => exact h.elim
  | inf s =>
    show FP.Core.assemble FP.Core.b32 s (FP.Core.b32.exps - 1) 0 % 2147483648 ≤ 2139095040 ∧ FP.Core.assemble FP.Core.b32 s (FP.Core.b32.exps - 1) 0 < 4294967296
    unfold FP.Core.assemble
    rw [e1, e2]
    have : s.toNat ≤ 1 := Bool.toNat_le s
    omega
  | fin s c q =>
    have h : c < 16777216 ∧ q ≤ 104 := h
    have : s.toNat ≤ 1 := Bool.toNat_le s
    have en : FP.Core.encode FP.Core.b32 (.fin s c q) = if c < 8388608 then (s.toNat * 256 + 0) * 8388608 + c else (s.toNat * 256 + ((q - (-149)).toNat + 1)) * 8388608 + (c - 8388608) := rfl
    rw [en]
    by_cases g : c < 8388608
    · rw [if_pos g]
      omega
    · rw [if_neg g]
      omega
theorem set32 (s : Bool) (c : Nat) (q : Int) : okD32 (FP.Core.settle FP.Core.b32 s c q) := by
  have st : FP.Core.settle FP.Core.b32 s c q = if c < 16777216 then (if q ≤ 104 then .fin s c q else .inf s) else (if q + 1 ≤ 104 then .fin s 8388608 (q + 1) else .inf s) := rfl
  rw [st]
  by_cases g : c < 16777216
  · rw [if_pos g]
    by_cases g2 : q ≤ 104
    · rw [if_pos g2]
      exact ⟨g, g2⟩
    · rw [if_neg g2]
      trivial
  · rw [if_neg g]
    by_cases g2 : q + 1 ≤ 104
    · rw [if_pos g2]
      exact ⟨by omega, g2⟩
    · rw [if_neg g2]
      trivial
theorem rr32 (s : Bool) (n d : Nat) (e : Int) : okD32 (FP.Core.roundRatio FP.Core.b32 s n d e) := by
  unfold FP.Core.roundRatio
  by_cases g : n = 0
  · rw [if_pos g]
    exact ⟨by omega, by show ((-149) : Int) ≤ 104; omega⟩
  · rw [if_neg g]
    exact set32 _ _ _
theorem bits32 {N : Nat} (h : N % 2147483648 ≤ 2139095040) : (UInt32.ofNat N &&& 0x7fffffff) ≤ 0x7f800000 := by
  rw [UInt32.le_iff_toNat_le, UInt32.toNat_and, UInt32.toNat_ofNat']
  show N % 4294967296 &&& (2 ^ 31 - 1) ≤ 2139095040
  rw [Nat.and_two_pow_sub_one_eq_mod]
  show N % 4294967296 % 2147483648 ≤ 2139095040
  omega
theorem unbit32 {v : UInt32} (h : (v &&& 0x7fffffff) ≤ 0x7f800000) : v.toNat % 2147483648 ≤ 2139095040 := by
  rw [UInt32.le_iff_toNat_le, UInt32.toNat_and] at h
  have h : v.toNat &&& (2 ^ 31 - 1) ≤ 2139095040 := h
  rw [Nat.and_two_pow_sub_one_eq_mod] at h
  exact h
theorem dec32 (N : Nat) : FP.Core.decode FP.Core.b32 N = if N / 8388608 % 256 = 255 then (if N % 8388608 = 0 then .inf (FP.Core.fieldS FP.Core.b32 N) else .nan) else if N / 8388608 % 256 = 0 then .fin (FP.Core.fieldS FP.Core.b32 N) (N % 8388608) (-149) else .fin (FP.Core.fieldS FP.Core.b32 N) (8388608 + N % 8388608) ((-149) + (((N / 8388608 % 256 : Nat) : Int) - 1)) := rfl
theorem nonan32 {N : Nat} (h : N % 2147483648 ≤ 2139095040) : FP.Core.decode FP.Core.b32 N ≠ .nan := by
  rw [dec32]
  by_cases g : N / 8388608 % 256 = 255
  · rw [if_pos g, if_pos (by omega)]
    exact FP.Core.Datum.noConfusion
  · rw [if_neg g]
    by_cases g2 : N / 8388608 % 256 = 0
    · rw [if_pos g2]
      exact FP.Core.Datum.noConfusion
    · rw [if_neg g2]
      exact FP.Core.Datum.noConfusion
/-- a small whole number is a number, and not 0 unless it is 0 -/
theorem int32 {z : Nat} (h : z < 16777216) : FP.Core.fromInt FP.Core.b32 z < 4294967296 ∧ ∃ (s : Bool) (c : Nat) (q : Int), FP.Core.decode FP.Core.b32 (FP.Core.fromInt FP.Core.b32 z) = .fin s c q ∧ (0 < z → c ≠ 0) := by
  by_cases z0 : z = 0
  · subst z0
    exact ⟨by decide, false, 0, (-149), by decide, fun g => by omega⟩
  · have l1 := Nat.log2_self_le z0
    have l2 : z < 2 ^ (z.log2 + 1) := Nat.lt_log2_self
    have l3 : z.log2 < 24 := (Nat.log2_lt z0).mpr h
    obtain ⟨L, hL⟩ : ∃ L, L = z.log2 := ⟨_, rfl⟩
    rw [← hL] at l1 l2 l3
    have hp : 2 ^ L * 2 ^ (23 - L) = 8388608 := by
      rw [← Nat.pow_add, show L + (23 - L) = 23 by omega]
    have hp2 : 2 ^ (L + 1) * 2 ^ (23 - L) = 16777216 := by
      rw [Nat.pow_succ, Nat.mul_right_comm, hp]
    have c1 : 8388608 ≤ z * 2 ^ (23 - L) := by
      rw [← hp]
      exact Nat.mul_le_mul_right _ l1
    have c2 : z * 2 ^ (23 - L) < 16777216 := by
      rw [← hp2]
      exact Nat.mul_lt_mul_of_pos_right l2 (Nat.two_pow_pos _)
    have ld : FP.Core.leading z 1 = L := by
      have e : FP.Core.leading z 1 = if 1 * 2 ^ ((z.log2 : Int) - ((Nat.log2 1 : Nat) : Int)).toNat ≤ z * 2 ^ (-((z.log2 : Int) - ((Nat.log2 1 : Nat) : Int))).toNat then (z.log2 : Int) - ((Nat.log2 1 : Nat) : Int) else (z.log2 : Int) - ((Nat.log2 1 : Nat) : Int) - 1 := rfl
      have l0 : Nat.log2 1 = 0 := by decide
      rw [e, l0, ← hL, show ((L : Int) - ((0 : Nat) : Int)).toNat = L by omega, show (-((L : Int) - ((0 : Nat) : Int))).toNat = 0 by omega, if_pos (by omega)]
      omega
    have qu : FP.Core.quantum FP.Core.b32 z 1 0 = (L : Int) - 23 := by
      have e : FP.Core.quantum FP.Core.b32 z 1 0 = max ((-149)) (FP.Core.leading z 1 + 0 - ((24 : Int) - 1)) := rfl
      rw [e, ld]
      omega
    have un : FP.Core.unitsNum z 0 ((L : Int) - 23) = z * 2 ^ (23 - L) := by
      unfold FP.Core.unitsNum
      rw [show (0 - ((L : Int) - 23)).toNat = 23 - L by omega]
    have ud : FP.Core.unitsDen 1 0 ((L : Int) - 23) = 1 := by
      unfold FP.Core.unitsDen
      rw [show ((L : Int) - 23 - 0).toNat = 0 by omega]
    have ne : ∀ n : Nat, FP.Core.nearest n 1 = n := by
      intro n
      unfold FP.Core.nearest
      rw [if_pos (by omega), Nat.div_one]
    have ra : FP.Core.round FP.Core.b32 (FP.Core.ofInt z) = .fin false (z * 2 ^ (23 - L)) ((L : Int) - 23) := by
      have e : FP.Core.round FP.Core.b32 (FP.Core.ofInt z) = FP.Core.roundRatio FP.Core.b32 false z 1 0 := rfl
      rw [e]
      unfold FP.Core.roundRatio
      rw [if_neg z0, qu]
      unfold FP.Core.roundAt
      rw [un, ud, ne]
      have st : ∀ c q, FP.Core.settle FP.Core.b32 false c q = if c < 16777216 then (if q ≤ 104 then .fin false c q else .inf false) else (if q + 1 ≤ 104 then .fin false 8388608 (q + 1) else .inf false) := fun _ _ => rfl
      rw [st, if_pos c2, if_pos (by omega)]
    have fi : FP.Core.fromInt FP.Core.b32 z = (0 * 256 + (((L : Int) - 23 - (-149)).toNat + 1)) * 8388608 + (z * 2 ^ (23 - L) - 8388608) := by
      unfold FP.Core.fromInt
      rw [ra]
      have en : ∀ c q, FP.Core.encode FP.Core.b32 (.fin false c q) = if c < 8388608 then (0 * 256 + 0) * 8388608 + c else (0 * 256 + ((q - (-149)).toNat + 1)) * 8388608 + (c - 8388608) := fun _ _ => rfl
      rw [en, if_neg (by omega)]
    obtain ⟨c, hc⟩ : ∃ c, c = z * 2 ^ (23 - L) := ⟨_, rfl⟩
    rw [← hc] at fi c1 c2
    rw [fi, dec32]
    refine ⟨by omega, ?_⟩
    rw [if_neg (by omega), if_neg (by omega)]
    exact ⟨_, _, _, rfl, fun _ => by omega⟩

theorem cst64 : FP.Core.b64.tails = 4503599627370496 ∧ FP.Core.b64.exps = 2048 ∧ FP.Core.b64.qmin = (-1074) ∧ FP.Core.b64.qmax = 971 ∧ 2 ^ FP.Core.b64.p = 9007199254740992 ∧ FP.Core.b64.p = 53 := ⟨rfl, rfl, rfl, rfl, rfl, rfl⟩
def okD64 (d : FP.Core.Datum) : Prop := match d with
  | .nan => False
  | .inf _ => True
  | .fin _ c q => c < 9007199254740992 ∧ q ≤ 971
theorem enc64 {d : FP.Core.Datum} (h : okD64 d) : FP.Core.encode FP.Core.b64 d % 9223372036854775808 ≤ 9218868437227405312 ∧ FP.Core.encode FP.Core.b64 d < 18446744073709551616 := by
  obtain ⟨e1, e2, e3, e4, e5, e6⟩ := cst64
  cases d with
  | nan => exact h.elim
  | inf s =>
    show FP.Core.assemble FP.Core.b64 s (FP.Core.b64.exps - 1) 0 % 9223372036854775808 ≤ 9218868437227405312 ∧ FP.Core.assemble FP.Core.b64 s (FP.Core.b64.exps - 1) 0 < 18446744073709551616
    unfold FP.Core.assemble
    rw [e1, e2]
    have : s.toNat ≤ 1 := Bool.toNat_le s
    omega
  | fin s c q =>
    have h : c < 9007199254740992 ∧ q ≤ 971 := h
    have : s.toNat ≤ 1 := Bool.toNat_le s
    have en : FP.Core.encode FP.Core.b64 (.fin s c q) = if c < 4503599627370496 then (s.toNat * 2048 + 0) * 4503599627370496 + c else (s.toNat * 2048 + ((q - (-1074)).toNat + 1)) * 4503599627370496 + (c - 4503599627370496) := rfl
    rw [en]
    by_cases g : c < 4503599627370496
    · rw [if_pos g]
      omega
    · rw [if_neg g]
      omega
theorem set64 (s : Bool) (c : Nat) (q : Int) : okD64 (FP.Core.settle FP.Core.b64 s c q) := by
  have st : FP.Core.settle FP.Core.b64 s c q = if c < 9007199254740992 then (if q ≤ 971 then .fin s c q else .inf s) else (if q + 1 ≤ 971 then .fin s 4503599627370496 (q + 1) else .inf s) := rfl
  rw [st]
  by_cases g : c < 9007199254740992
  · rw [if_pos g]
    by_cases g2 : q ≤ 971
    · rw [if_pos g2]
      exact ⟨g, g2⟩
    · rw [if_neg g2]
      trivial
  · rw [if_neg g]
    by_cases g2 : q + 1 ≤ 971
    · rw [if_pos g2]
      exact ⟨by omega, g2⟩
    · rw [if_neg g2]
      trivial
theorem rr64 (s : Bool) (n d : Nat) (e : Int) : okD64 (FP.Core.roundRatio FP.Core.b64 s n d e) := by
  unfold FP.Core.roundRatio
  by_cases g : n = 0
  · rw [if_pos g]
    exact ⟨by omega, by show ((-1074) : Int) ≤ 971; omega⟩
  · rw [if_neg g]
    exact set64 _ _ _
theorem bits64 {N : Nat} (h : N % 9223372036854775808 ≤ 9218868437227405312) : (UInt64.ofNat N &&& 0x7fffffffffffffff) ≤ 0x7ff0000000000000 := by
  rw [UInt64.le_iff_toNat_le, UInt64.toNat_and, UInt64.toNat_ofNat']
  show N % 18446744073709551616 &&& (2 ^ 63 - 1) ≤ 9218868437227405312
  rw [Nat.and_two_pow_sub_one_eq_mod]
  show N % 18446744073709551616 % 9223372036854775808 ≤ 9218868437227405312
  omega
theorem unbit64 {v : UInt64} (h : (v &&& 0x7fffffffffffffff) ≤ 0x7ff0000000000000) : v.toNat % 9223372036854775808 ≤ 9218868437227405312 := by
  rw [UInt64.le_iff_toNat_le, UInt64.toNat_and] at h
  have h : v.toNat &&& (2 ^ 63 - 1) ≤ 9218868437227405312 := h
  rw [Nat.and_two_pow_sub_one_eq_mod] at h
  exact h
theorem dec64 (N : Nat) : FP.Core.decode FP.Core.b64 N = if N / 4503599627370496 % 2048 = 2047 then (if N % 4503599627370496 = 0 then .inf (FP.Core.fieldS FP.Core.b64 N) else .nan) else if N / 4503599627370496 % 2048 = 0 then .fin (FP.Core.fieldS FP.Core.b64 N) (N % 4503599627370496) (-1074) else .fin (FP.Core.fieldS FP.Core.b64 N) (4503599627370496 + N % 4503599627370496) ((-1074) + (((N / 4503599627370496 % 2048 : Nat) : Int) - 1)) := rfl
theorem nonan64 {N : Nat} (h : N % 9223372036854775808 ≤ 9218868437227405312) : FP.Core.decode FP.Core.b64 N ≠ .nan := by
  rw [dec64]
  by_cases g : N / 4503599627370496 % 2048 = 2047
  · rw [if_pos g, if_pos (by omega)]
    exact FP.Core.Datum.noConfusion
  · rw [if_neg g]
    by_cases g2 : N / 4503599627370496 % 2048 = 0
    · rw [if_pos g2]
      exact FP.Core.Datum.noConfusion
    · rw [if_neg g2]
      exact FP.Core.Datum.noConfusion
/-- a small whole number is a number, and not 0 unless it is 0 -/
theorem int64 {z : Nat} (h : z < 16777216) : FP.Core.fromInt FP.Core.b64 z < 18446744073709551616 ∧ ∃ (s : Bool) (c : Nat) (q : Int), FP.Core.decode FP.Core.b64 (FP.Core.fromInt FP.Core.b64 z) = .fin s c q ∧ (0 < z → c ≠ 0) := by
  by_cases z0 : z = 0
  · subst z0
    exact ⟨by decide, false, 0, (-1074), by decide, fun g => by omega⟩
  · have l1 := Nat.log2_self_le z0
    have l2 : z < 2 ^ (z.log2 + 1) := Nat.lt_log2_self
    have l3 : z.log2 < 24 := (Nat.log2_lt z0).mpr h
    obtain ⟨L, hL⟩ : ∃ L, L = z.log2 := ⟨_, rfl⟩
    rw [← hL] at l1 l2 l3
    have hp : 2 ^ L * 2 ^ (52 - L) = 4503599627370496 := by
      rw [← Nat.pow_add, show L + (52 - L) = 52 by omega]
    have hp2 : 2 ^ (L + 1) * 2 ^ (52 - L) = 9007199254740992 := by
      rw [Nat.pow_succ, Nat.mul_right_comm, hp]
    have c1 : 4503599627370496 ≤ z * 2 ^ (52 - L) := by
      rw [← hp]
      exact Nat.mul_le_mul_right _ l1
    have c2 : z * 2 ^ (52 - L) < 9007199254740992 := by
      rw [← hp2]
      exact Nat.mul_lt_mul_of_pos_right l2 (Nat.two_pow_pos _)
    have ld : FP.Core.leading z 1 = L := by
      have e : FP.Core.leading z 1 = if 1 * 2 ^ ((z.log2 : Int) - ((Nat.log2 1 : Nat) : Int)).toNat ≤ z * 2 ^ (-((z.log2 : Int) - ((Nat.log2 1 : Nat) : Int))).toNat then (z.log2 : Int) - ((Nat.log2 1 : Nat) : Int) else (z.log2 : Int) - ((Nat.log2 1 : Nat) : Int) - 1 := rfl
      have l0 : Nat.log2 1 = 0 := by decide
      rw [e, l0, ← hL, show ((L : Int) - ((0 : Nat) : Int)).toNat = L by omega, show (-((L : Int) - ((0 : Nat) : Int))).toNat = 0 by omega, if_pos (by omega)]
      omega
    have qu : FP.Core.quantum FP.Core.b64 z 1 0 = (L : Int) - 52 := by
      have e : FP.Core.quantum FP.Core.b64 z 1 0 = max ((-1074)) (FP.Core.leading z 1 + 0 - ((53 : Int) - 1)) := rfl
      rw [e, ld]
      omega
    have un : FP.Core.unitsNum z 0 ((L : Int) - 52) = z * 2 ^ (52 - L) := by
      unfold FP.Core.unitsNum
      rw [show (0 - ((L : Int) - 52)).toNat = 52 - L by omega]
    have ud : FP.Core.unitsDen 1 0 ((L : Int) - 52) = 1 := by
      unfold FP.Core.unitsDen
      rw [show ((L : Int) - 52 - 0).toNat = 0 by omega]
    have ne : ∀ n : Nat, FP.Core.nearest n 1 = n := by
      intro n
      unfold FP.Core.nearest
      rw [if_pos (by omega), Nat.div_one]
    have ra : FP.Core.round FP.Core.b64 (FP.Core.ofInt z) = .fin false (z * 2 ^ (52 - L)) ((L : Int) - 52) := by
      have e : FP.Core.round FP.Core.b64 (FP.Core.ofInt z) = FP.Core.roundRatio FP.Core.b64 false z 1 0 := rfl
      rw [e]
      unfold FP.Core.roundRatio
      rw [if_neg z0, qu]
      unfold FP.Core.roundAt
      rw [un, ud, ne]
      have st : ∀ c q, FP.Core.settle FP.Core.b64 false c q = if c < 9007199254740992 then (if q ≤ 971 then .fin false c q else .inf false) else (if q + 1 ≤ 971 then .fin false 4503599627370496 (q + 1) else .inf false) := fun _ _ => rfl
      rw [st, if_pos c2, if_pos (by omega)]
    have fi : FP.Core.fromInt FP.Core.b64 z = (0 * 2048 + (((L : Int) - 52 - (-1074)).toNat + 1)) * 4503599627370496 + (z * 2 ^ (52 - L) - 4503599627370496) := by
      unfold FP.Core.fromInt
      rw [ra]
      have en : ∀ c q, FP.Core.encode FP.Core.b64 (.fin false c q) = if c < 4503599627370496 then (0 * 2048 + 0) * 4503599627370496 + c else (0 * 2048 + ((q - (-1074)).toNat + 1)) * 4503599627370496 + (c - 4503599627370496) := fun _ _ => rfl
      rw [en, if_neg (by omega)]
    obtain ⟨c, hc⟩ : ∃ c, c = z * 2 ^ (52 - L) := ⟨_, rfl⟩
    rw [← hc] at fi c1 c2
    rw [fi, dec64]
    refine ⟨by omega, ?_⟩
    rw [if_neg (by omega), if_neg (by omega)]
    exact ⟨_, _, _, rfl, fun _ => by omega⟩

section FLO
theorem fl_toInt {z : Nat} (h : z < 16777216) : (I (z : Int)).toInt = z := I_toInt (by omega) (by omega)
theorem i2f_at {z : Nat} (h : z < 16777216) : (FP.i2f (I z)).toNat = FP.Core.fromInt FP.Core.b32 z := by
  show (UInt32.ofNat (FP.Core.fromInt FP.Core.b32 (I (z : Int)).toInt)).toNat = _
  rw [fl_toInt h, UInt32.toNat_ofNat', Nat.mod_eq_of_lt (int32 h).1]
theorem i2d_at {z : Nat} (h : z < 16777216) : (FP.i2d (I z)).toNat = FP.Core.fromInt FP.Core.b64 z := by
  show (UInt64.ofNat (FP.Core.fromInt FP.Core.b64 (I (z : Int)).toInt)).toNat = _
  rw [fl_toInt h, UInt64.toNat_ofNat', Nat.mod_eq_of_lt (int64 h).1]
theorem quo32 {a c : Nat} (ha : a < 16777216) (h0 : 0 < c) (hc : c < 16777216) : ∃ N : Nat, FP.fdiv (FP.i2f (I a)) (FP.i2f (I c)) = UInt32.ofNat N ∧ N % 2147483648 ≤ 2139095040 ∧ N < 4294967296 := by
  obtain ⟨-, s1, c1, q1, d1, -⟩ := int32 ha
  obtain ⟨-, s2, c2, q2, d2, n2⟩ := int32 hc
  refine ⟨FP.Core.div FP.Core.b32 (FP.i2f (I a)).toNat (FP.i2f (I c)).toNat, rfl, ?_⟩
  rw [i2f_at ha, i2f_at hc]
  unfold FP.Core.div
  rw [d1, d2]
  have e : FP.Core.quotient FP.Core.b32 (.fin s1 c1 q1) (.fin s2 c2 q2) = if c2 = 0 then (if c1 = 0 then .nan else .inf (s1 != s2)) else FP.Core.roundRatio FP.Core.b32 (s1 != s2) c1 c2 (q1 - q2) := rfl
  rw [e, if_neg (n2 h0)]
  exact enc32 (rr32 _ _ _ _)
theorem quo64 {a c : Nat} (ha : a < 16777216) (h0 : 0 < c) (hc : c < 16777216) : ∃ N : Nat, FP.ddiv (FP.i2d (I a)) (FP.i2d (I c)) = UInt64.ofNat N ∧ N % 9223372036854775808 ≤ 9218868437227405312 ∧ N < 18446744073709551616 := by
  obtain ⟨-, s1, c1, q1, d1, -⟩ := int64 ha
  obtain ⟨-, s2, c2, q2, d2, n2⟩ := int64 hc
  refine ⟨FP.Core.div FP.Core.b64 (FP.i2d (I a)).toNat (FP.i2d (I c)).toNat, rfl, ?_⟩
  rw [i2d_at ha, i2d_at hc]
  unfold FP.Core.div
  rw [d1, d2]
  have e : FP.Core.quotient FP.Core.b64 (.fin s1 c1 q1) (.fin s2 c2 q2) = if c2 = 0 then (if c1 = 0 then .nan else .inf (s1 != s2)) else FP.Core.roundRatio FP.Core.b64 (s1 != s2) c1 c2 (q1 - q2) := rfl
  rw [e, if_neg (n2 h0)]
  exact enc64 (rr64 _ _ _ _)
theorem f2d_ok {v : UInt32} (h : (v &&& 0x7fffffff) ≤ 0x7f800000) : FP.f2d v &&& 0x7fffffffffffffff ≤ 0x7ff0000000000000 := by
  have nn := nonan32 (unbit32 h)
  have e : FP.f2d v = UInt64.ofNat (FP.Core.convert FP.Core.b32 FP.Core.b64 v.toNat) := by
    have g : FP.Core.fIsNaN v = false := decide_eq_false nn
    unfold FP.f2d
    rw [g]
    rfl
  rw [e]
  refine bits64 ?_
  unfold FP.Core.convert
  cases hd : FP.Core.decode FP.Core.b32 v.toNat with
  | nan => exact absurd hd nn
  | inf s => exact (enc64 (d := .inf s) trivial).1
  | fin s c q => exact (enc64 (rr64 s c 1 q)).1
theorem dc_self {v : UInt64} (h : (v &&& 0x7fffffffffffffff) ≤ 0x7ff0000000000000) : FP.dcmp v v = some .eq := by
  have nn := nonan64 (unbit64 h)
  show FP.Core.order (FP.Core.decode FP.Core.b64 v.toNat) (FP.Core.decode FP.Core.b64 v.toNat) = some .eq
  have cs : ∀ z : Int, compare z z = .eq := fun z => by
    show compareOfLessAndEq z z = .eq
    unfold compareOfLessAndEq
    rw [if_neg (by omega), if_pos rfl]
  cases hd : FP.Core.decode FP.Core.b64 v.toNat with
  | nan => exact absurd hd nn
  | inf s => exact congrArg some (cs _)
  | fin s c q => exact congrArg some (cs _)
end FLO
