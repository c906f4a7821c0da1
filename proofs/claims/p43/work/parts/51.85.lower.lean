section LWR
variable {b : Int} {σ : Nat → Int}
theorem x_along (h : WF b σ) {k10 : Nat → Int32} (hk : AR k10 (fun c => σ (13 + c)) 64) {a : Nat → Int32} {E : Nat → Int} (ha : AR a E 64) {B : Int} (hB : B < 900000) (hE : ∀ c : Nat, c < 64 → -1 ≤ E c ∧ E c ≤ B) {d k : Nat} (hd : d < 64) :
    ∃ (q : Bool) (a' : Nat → Int32), F_X10_lowerAlong (I d) (I (nx d k)) k10 a = some (bI q, a') ∧ AR a' (alS σ E d k) 64 ∧ (q = false → ∀ c : Nat, alS σ E d k c = E c) ∧ (∀ c : Nat, c < 64 → -1 ≤ alS σ E d k c ∧ alS σ E d k c ≤ B + 2) := by
  have hn := nx_in (d : Int) k
  by_cases e : nx d k = -1
  · refine ⟨false, a, ?_, ?_, ?_, ?_⟩
    · unfold F_X10_lowerAlong
      rw [e, brn_pos _ _ (by rw [m1])]
      rfl
    · unfold alS
      rw [if_pos e]
      exact ha
    · intro _ c
      unfold alS
      rw [if_pos e]
    · intro c hc
      unfold alS
      rw [if_pos e]
      have := hE c hc
      omega
  · obtain ⟨c, ec⟩ := Int.eq_ofNat_of_zero_le (show 0 ≤ nx d k by omega)
    obtain ⟨a', g1, g2⟩ := x_lowAlong h hk ha hB hE hd (show c < 64 by omega)
    have ea : alS σ E d k = lowS σ (lowS σ E d c) c d := by
      unfold alS
      rw [if_neg e, ec, Int.toNat_natCast]
    refine ⟨_, a', by rw [ec]; exact g1, by rw [ea]; exact g2, ?_, ?_⟩
    · intro q m
      rw [Bool.or_eq_false_iff] at q
      have q1 := of_decide_eq_false q.1
      have e1 : lowS σ E d c = E := if_neg q1
      have q2 := of_decide_eq_false q.2
      rw [ea, e1]
      rw [e1] at q2
      exact congrFun (if_neg q2) m
    · intro m hm
      rw [ea]
      have := lowS_in (σ := σ) (lowS_in (σ := σ) (c := c) hE hd) (d := c) (c := d) (by omega) m hm
      omega
theorem x_sweepL (h : WF b σ) {k10 : Nat → Int32} (hk : AR k10 (fun c => σ (13 + c)) 64) (p2 : Int32) (g : Int32 → Int32 → (Nat → Int32) → Option (Nat → Int32)) (x4 : Int32) : ∀ (r k f : Nat) (E : Nat → Int) (a : Nat → Int32) (fl : Bool) (B : Int), k + r = 64 → r < f → AR a E 64 → B + 4 * r < 800000 → (∀ c : Nat, c < 64 → -1 ≤ E c ∧ E c ≤ B) →
    ∃ (a' : Nat → Int32) (fl' : Bool), L_X10_lower_37 p2 k10 g f (bI fl) x4 (I k) a = g (bI fl') (x4 + 1) a' ∧ AR a' (swS σ r k E) 64 ∧ (fl' = false → fl = false ∧ ∀ c : Nat, swS σ r k E c = E c) ∧ (∀ c : Nat, c < 64 → -1 ≤ swS σ r k E c ∧ swS σ r k E c ≤ B + 4 * r) := by
  intro r
  induction r with
  | zero =>
    intro k f E a fl B hk2 hf ha hB hE
    obtain ⟨f, rfl⟩ : ∃ g, f = g + 1 := ⟨f - 1, by omega⟩
    obtain rfl : k = 64 := by omega
    refine ⟨a, fl, ?_, ha, fun q => ⟨q, fun c => rfl⟩, fun c hc => by have := hE c hc; show -1 ≤ E c ∧ E c ≤ _; omega⟩
    rw [L_X10_lower_37, brn_pos _ _ (by decide)]
  | succ r ih =>
    intro k f E a fl B hk2 hf ha hB hE
    obtain ⟨f, rfl⟩ : ∃ g, f = g + 1 := ⟨f - 1, by omega⟩
    obtain ⟨q1, a1, r1, r2, r3, r4⟩ := x_along h hk ha (B := B) (by omega) hE (d := k) (k := 1) (by omega)
    obtain ⟨q2, a2, s1, s2, s3, s4⟩ := x_along h hk r2 (B := B + 2) (by omega) r4 (d := k) (k := 3) (by omega)
    obtain ⟨a', fl', t1, t2, t3, t4⟩ := ih (k + 1) f _ a2 (fl || q1 || q2) (B + 2 + 2) (by omega) (by omega) s2 (by omega) s4
    have n1 := x_next (d := (k : Int)) (by omega) (by omega) (k := 1) (by omega)
    have n3 := x_next (d := (k : Int)) (by omega) (by omega) (k := 3) (by omega)
    have kk : I (k : Int) + 1 = I ((k + 1 : Nat) : Int) := by rw [lit_1, I_add]; congr 1
    have j69 : ∀ t : Bool, J_X10_lower_69 p2 k10 g (L_X10_lower_37 p2 k10 g f) (bI t) x4 (I k) a1 = L_X10_lower_37 p2 k10 g f (bI (t || q2)) x4 (I ((k + 1 : Nat) : Int)) a2 := by
      intro t
      unfold J_X10_lower_69 J_X10_lower_90 J_X10_lower_95
      rw [show F_X0_nextTo (I k) 3 = _ from n3, bnd_some, s1, bnd_some, kk]
      cases t <;> cases q2 <;> rfl
    refine ⟨a', fl', ?_, t2, ?_, ?_⟩
    · rw [L_X10_lower_37, brn_neg _ _ (by rw [show (64 : Int32) = I 64 from rfl, I_le (by omega) (by omega) (by omega) (by omega)]; omega), show F_X0_nextTo (I k) 1 = _ from n1, bnd_some, r1, bnd_some]
      unfold J_X10_lower_64
      cases fl <;> cases q1
      · exact (j69 false).trans t1
      · exact (j69 true).trans t1
      · exact (j69 true).trans t1
      · exact (j69 true).trans t1
    · intro q
      have := t3 q
      have w : (fl = false ∧ q1 = false) ∧ q2 = false := by
        have w := this.1
        rw [Bool.or_eq_false_iff, Bool.or_eq_false_iff] at w
        exact w
      refine ⟨w.1.1, fun c => ?_⟩
      rw [swS, this.2 c, s3 w.2 c, r3 w.1.2 c]
    · intro c hc
      have := t4 c hc
      rw [swS]
      omega
end LWR
