/-! ===== sleepers, rings, means ===== -/
theorem fc_self {v : UInt32} (h : (v &&& 0x7fffffff) ≤ 0x7f800000) : FP.fcmp v v = some .eq := by
  have nn := nonan32 (unbit32 h)
  show FP.Core.order (FP.Core.decode FP.Core.b32 v.toNat) (FP.Core.decode FP.Core.b32 v.toNat) = some .eq
  have cs : ∀ z : Int, compare z z = .eq := fun z => by
    show compareOfLessAndEq z z = .eq
    unfold compareOfLessAndEq
    rw [if_neg (by omega), if_pos rfl]
  cases hd : FP.Core.decode FP.Core.b32 v.toNat with
  | nan => exact absurd hd nn
  | inf s => exact congrArg some (cs _)
  | fin s c q => exact congrArg some (cs _)
theorem hoursN {b : Int} {σ : Nat → Int} (h : WF b σ) {i : Nat} (hi : (i : Int) < σ 2) : cnt (fun t => slB σ i t) 24 0 = slN σ i := by
  have hc := h.house hi
  have hl := slN_in σ i
  have key : ∀ f, f < 24 → ∀ n, n < 24 → cnt (fun t => decide (md (((t : Nat) : Int) - ((f : Nat) : Int) + 24) 24 < ((n : Nat) : Int))) 24 0 = n := by decide +kernel
  have k := key (σ (78 + 5 * i)).toNat (by omega) (slN σ i).toNat (by omega)
  rw [show (((σ (78 + 5 * i)).toNat : Nat) : Int) = σ (78 + 5 * i) by omega, show (((slN σ i).toNat : Nat) : Int) = slN σ i by omega] at k
  exact k
theorem sumI_swap (p : Nat → Nat → Bool) (r2 k2 : Nat) : ∀ r k, sumI (fun t => cnt (fun i => p i t) r2 k2) r k = sumI (fun i => cnt (fun t => p i t) r k) r2 k2 := by
  intro r
  induction r with
  | zero =>
    intro k
    show (0 : Int) = sumI (fun _ => 0) r2 k2
    have : ∀ r2 k2, sumI (fun _ => 0) r2 k2 = 0 := by
      intro r2
      induction r2 with
      | zero => intro _; rfl
      | succ r ih => intro k; show (0 : Int) + sumI (fun _ => 0) r (k + 1) = 0; rw [ih]; rfl
    exact (this r2 k2).symm
  | succ r ih =>
    intro k
    show cnt (fun i => p i k) r2 k2 + sumI (fun t => cnt (fun i => p i t) r2 k2) r (k + 1) = _
    rw [ih, cnt_sum, sumI_add]
    rfl
section SLP
variable {b : Int} {σ : Nat → Int} {x : XVal}
theorem slC_sum (h : WF b σ) : sumI (fun t => slC σ t) 24 0 = sumI (slN σ) (σ 2).toNat 0 := by
  show sumI (fun t => cnt (fun i => slB σ i t) (σ 2).toNat 0) 24 0 = _
  rw [sumI_swap (fun i t => slB σ i t)]
  exact sumI_cong (fun i _ hi => hoursN h (by omega))
theorem v_mean (h : WF b σ) (T : TR σ (xT x)) (h0 : 0 < σ 2) : G_meanSleep x = some (0, FP.ddiv (FP.i2d (I (sumI (slN σ) (σ 2).toNat 0))) (FP.i2d (I (σ 2))), x) ∧ nnD (FP.ddiv (FP.i2d (I (sumI (slN σ) (σ 2).toNat 0))) (FP.i2d (I (σ 2)))) := by
  have hn := h.n
  have h7 : x.1 7 = I (σ 2) := T.1.2.2.2.2.2.2.1
  have si := sl_in σ (σ 2).toNat 0
  have sm : F_X2_sleepSum (I (σ 2)) (x.2.1 1) (x.2.1 2) = some (I (sumI (slN σ) (σ 2).toNat 0)) := x_sleepSum (v := xT x) h T
  obtain ⟨S, hS⟩ : ∃ S, S = sumI (slN σ) (σ 2).toNat 0 := ⟨_, rfl⟩
  rw [← hS] at si sm ⊢
  obtain ⟨s, hs⟩ := Int.eq_ofNat_of_zero_le si.1
  obtain ⟨c, hc⟩ := Int.eq_ofNat_of_zero_le hn.1
  obtain ⟨N, q1, q2, q3⟩ := quo64 (a := s) (c := c) (by omega) (by omega) (by omega)
  have nn : nnD (FP.ddiv (FP.i2d (I S)) (FP.i2d (I (σ 2)))) := by
    rw [hs, hc, q1]
    exact bits64 q2
  refine ⟨?_, nn⟩
  unfold G_meanSleep F_X11_meanSleep F_X2_size F_X11_demandDivisor
  rw [h7, bnd_some, brn_pos (c := 0 < I (σ 2)) _ _ (by rw [lit_0, I_lt (by omega) (by omega) (by omega) (by omega)]; exact h0), bnd_some, brn_pos _ _ rfl, sm, bnd_some, bnd_some, grd_pos _ nn, bnd_some]
theorem v_share (h : WF b σ) (T : TR σ (xT x)) (hb : b < 8000000) (h0 : 0 < σ 5 + σ 6) : G_prankShare x = some (0, FP.fdiv (FP.i2f (I (σ 12))) (FP.i2f (I (σ 5 + σ 6))), x) ∧ nnF (FP.fdiv (FP.i2f (I (σ 12))) (FP.i2f (I (σ 5 + σ 6)))) := by
  have sm := h.sums
  have s9 := sm.2.2.2.2.1 3 (by omega)
  have rg : F_X9_countRings (x.2.1 11) = some (I (σ 5 + σ 6)) := x_rings4 (v := xT x) h T
  have ck : F_X9_countKind 3 (x.2.1 11) = some (I (σ 12)) := by
    unfold F_X9_countKind
    rw [show F_X7_at 4 3 (x.2.1 11) = some (I (σ 12)) from x_at4 T.a11 (i := 3) (by omega) (by omega), bnd_some]
  obtain ⟨p, hp⟩ := Int.eq_ofNat_of_zero_le s9.1
  obtain ⟨c, hc⟩ := Int.eq_ofNat_of_zero_le (show 0 ≤ σ 5 + σ 6 by omega)
  have hp : σ 12 = p := hp
  have s12 : σ 12 ≤ b := s9.2
  obtain ⟨N, q1, q2, q3⟩ := quo32 (a := p) (c := c) (by omega) (by omega) (by omega)
  have nn : nnF (FP.fdiv (FP.i2f (I (σ 12))) (FP.i2f (I (σ 5 + σ 6)))) := by
    rw [hp, hc, q1]
    exact bits32 q2
  refine ⟨?_, nn⟩
  unfold G_prankShare F_X11_prankShare F_X11_demandDivisor
  rw [rg, bnd_some, brn_pos (c := 0 < I (σ 5 + σ 6)) _ _ (by rw [lit_0, I_lt (by omega) (by omega) (by omega) (by omega)]; exact h0), bnd_some, brn_pos _ _ rfl, ck, bnd_some, bnd_some, grd_pos _ nn, bnd_some]
end SLP
