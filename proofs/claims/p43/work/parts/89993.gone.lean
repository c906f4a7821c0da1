/-! ===== gone ===== -/
section GON
variable {b : Int} {σ π : Nat → Int} {n e : Nat} {L : Nat} {xs bl : Nat → Int32}
theorem g30 {s : Nat} (hs : s < 64) {D : Nat → Int} (hW : WY (fun c => blkB σ c) s D) {a : Nat → Int32} (ha : AR a (RW D) 64) (x3 : Int32) : ∀ (r k f : Nat) (x : XVal) (y : MVal), k + r = 64 → r < f → St b σ π n e x y →
    ∃ x2 y2, L_L_gone_30 L xs bl f x3 (I s) (I k) x a = L_L_gone_30 L xs bl 1 x3 (I s) (I 64) x2 a ∧ St b σ π n e x2 y2 := by
  intro r
  induction r with
  | zero =>
    intro k f x y hk hf hR
    obtain ⟨f, rfl⟩ : ∃ g, f = g + 1 := ⟨f - 1, by omega⟩
    have hk : k = 64 := by omega
    subst hk
    refine ⟨x, y, ?_, hR⟩
    show L_L_gone_30 L xs bl (f + 1) x3 (I s) (I 64) x a = L_L_gone_30 L xs bl 1 x3 (I s) (I 64) x a
    rw [L_L_gone_30, L_L_gone_30, brn_pos _ _ (show (64 : Int32) ≤ I 64 by decide), brn_pos _ _ (show (64 : Int32) ≤ I 64 by decide)]
  | succ r ih =>
    intro k f x y hk hf hR
    obtain ⟨f, rfl⟩ : ∃ g, f = g + 1 := ⟨f - 1, by omega⟩
    have k64 : k < 64 := by omega
    obtain ⟨x1, y1, z1, R1⟩ := os_way hR (0 : Int32) hs k64 hW
    obtain ⟨x2, y2, z2, R2⟩ := os_way R1 (1 : Int32) hs k64 hW
    obtain ⟨x3', y3', z3, R3⟩ := ih (k + 1) f x1 y1 (by omega) (by omega) R1
    obtain ⟨x4, y4, z4, R4⟩ := ih (k + 1) f x2 y2 (by omega) (by omega) R2
    have bD := hW.2.1 k k64
    have bD2 := WY_63 hs hW k64
    have ecl : (I (k : Int)).toNatClampNeg = k := by rw [I_cl (by omega) (by omega)]; omega
    have iN : inb (I (k : Int)) 64 := by rw [I_inb (by omega) (by omega)]; omega
    have key : ∃ x2 y2, J_L_gone_58 L xs bl (L_L_gone_30 L xs bl f) (I (if D k = -1 then -13 else D k)) x3 (I s) (I k) x a = L_L_gone_30 L xs bl 1 x3 (I s) (I 64) x2 a ∧ St b σ π n e x2 y2 := by
      unfold J_L_gone_58
      rw [l_apartI (by omega) (by omega), l_far (by omega) (by omega) (by omega) (by omega), bnd_some, bnd_some, brn_pos _ _ rfl, z1, bnd_some, brn_pos _ _ rfl, kk_I]
      by_cases q : (I (k : Int) - I (k : Int) / (9 : Int32) * (9 : Int32)) = 0
      · rw [brn_pos _ _ q, z2, bnd_some, brn_pos _ _ rfl]
        exact ⟨x4, y4, z4, R4⟩
      · rw [brn_neg _ _ q]
        exact ⟨x3', y3', z3, R3⟩
    rw [L_L_gone_30, brn_neg _ _ (by rw [lit_64, I_le (by omega) (by omega) (by omega) (by omega)]; omega), grd_pos _ iN, grd_pos _ iN, ecl, ha k (by omega)]
    have rwk : RW D k = if D k = -1 then 1000 else D k := rfl
    by_cases z : D k = -1
    · rw [if_pos z] at key
      rw [brn_pos _ _ (by rw [rwk, if_pos z]; decide)]
      exact key
    · rw [if_neg z] at key
      have rc : RW D k = D k := by rw [rwk, if_neg z]
      rw [rc, brn_neg _ _ (by rw [lit_1000, I_le (by omega) (by omega) (by omega) (by omega)]; omega)]
      exact key
theorem gone_ok {x : XVal} {y : MVal} (hR : St b σ π n e x y) (hb : b < 1000000) (hL : L ≤ 260) (hbl : ∀ c, c < 64 → bl c = I (σ (13 + c))) : ∃ x2 y2, F_L_gone L xs bl x = some ((1 : Int32), x2) ∧ St b σ π n e x2 y2 := by
  have hw := hR.1.1
  have T := hR.1.2.2
  have hn := hw.n
  obtain ⟨DD, hDD⟩ := DD_ex hw T
  obtain ⟨G, A, N, hRD⟩ := rd_N (cH σ DD) hn.1 hn.2
  obtain ⟨gz, az, gs, n1, n2, n3, n4⟩ := id hRD
  obtain ⟨z, hz⟩ := l_cell hL xs (k := 29) (by omega) (by omega)
  obtain ⟨u, hu, u0, u1⟩ := ushr_I z 1 (by decide)
  have m64 : 0 ≤ u % 64 ∧ u % 64 ≤ 63 := by omega
  obtain ⟨s, es⟩ := Int.eq_ofNat_of_zero_le m64.1
  have s64 : s < 64 := by omega
  have hW := hDD s s64
  have hbl2 : ∀ c : Nat, c < 64 → bl c = bI (blkB σ c) := fun c hc => by
    have hb := blk_at hw (c := (c : Int)) (by omega) (by omega)
    rw [show (13 + (c : Int)).toNat = 13 + c by omega] at hb
    rw [hbl c hc, hb, bI_I]
  obtain ⟨a, s1, s2⟩ := st_ok s64 hW hbl2
  obtain ⟨x1, y1, z1, R1⟩ := g30 (L := L) (xs := xs) (bl := bl) s64 hW s2 (I (σ 2)) 64 0 65 x y (by omega) (by omega) hR
  have last : ∀ (x1 : XVal) (y1 : MVal), St b σ π n e x1 y1 → ∃ x2 y2, L_L_gone_332 L xs bl 11 (I (σ 2)) (I N) (I (A N)) (-1 : Int32) (0 : Int32) x1 = some ((1 : Int32), x2) ∧ St b σ π n e x2 y2 := by
    intro x1 y1 R1
    have h1 := R1.1.1
    have T1 := R1.1.2.2
    obtain ⟨x2, y2, w2, R2⟩ := os_roundN R1 hDD hRD
    obtain ⟨x3, y3, w3, R3⟩ := os_stepsV R2 hDD hRD
    obtain ⟨x4, y4, w4, R4⟩ := os_wayN R3 (1 : Int32)
    refine ⟨x4, y4, ?_, R4⟩
    have g := g332 (L := L) (xs := xs) (bl := bl) h1 hb T1 (I N) (I (A N)) (σ 2).toNat 0 11 (-1) (by omega) (by omega) (Or.inl rfl)
    refine Eq.trans g ?_
    rw [L_L_gone_332, brn_pos _ _ (Int32.le_refl _), w2, bnd_some, brn_pos _ _ rfl, w3, bnd_some, brn_pos _ _ rfl, l_rankN R3.1.1 hb R3.1.2.2, bnd_some, brn_pos _ _ rfl, l_apartN, bnd_some, brn_pos _ _ rfl, w4, bnd_some, brn_pos _ _ rfl]
  have fin : ∃ x2 y2, L_L_gone_30 L xs bl 1 (I (σ 2)) (I s) (I 64) x1 a = some ((1 : Int32), x2) ∧ St b σ π n e x2 y2 := by
    rw [L_L_gone_30, brn_pos _ _ (show (64 : Int32) ≤ I 64 by decide)]
    unfold J_L_gone_131 J_L_gone_151
    by_cases q : σ 2 ≤ 0
    · have e0 : I (σ 2) ≤ 0 := by rw [lit_0, I_le (by omega) (by omega) (by omega) (by omega)]; exact q
      have N0 : N = 0 := by
        refine Classical.byContradiction (fun w => ?_)
        have := n3 0 (by omega)
        omega
      obtain ⟨x2, y2, w2, R2⟩ := last x1 y1 R1
      refine ⟨x2, y2, ?_, R2⟩
      rw [brn_pos _ _ e0, brn_pos _ _ e0, L_L_gone_153, brn_pos _ _ rfl]
      rw [N0, az] at w2
      exact w2
    · have e0 : ¬ I (σ 2) ≤ 0 := by rw [lit_0, I_le (by omega) (by omega) (by omega) (by omega)]; exact q
      rw [if_pos (by omega)] at gz
      obtain ⟨x2, y2, w2, R2⟩ := g153 (L := L) (xs := xs) (bl := bl) hbl hDD hRD N 0 12 1 x1 y1 (by omega) (by omega) (fun _ k hk => by
        rw [bt_1 k (by omega), vs_S, gz, show vs G 0 k = false from rfl, Bool.false_or]
        exact decide_eq_decide.mpr (by omega)) R1
      obtain ⟨x3, y3, w3, R3⟩ := last x2 y2 R2
      refine ⟨x3, y3, ?_, R3⟩
      rw [brn_neg _ _ e0, brn_neg _ _ e0, ← w3, ← w2, gz, az]
      rfl
  obtain ⟨x2, y2, w2, R2⟩ := fin
  refine ⟨x2, y2, ?_, R2⟩
  unfold F_L_gone
  rw [l_acc2 hw T, bnd_some, grd_pos _ rfl, show F_L_cell L xs (29 : Int32) = some z from hz, bnd_some, hu, lit_64, I_rem u0 u1 (by omega) (by omega), es, s1, bnd_some]
  exact (Eq.trans z1 w2)
end GON
