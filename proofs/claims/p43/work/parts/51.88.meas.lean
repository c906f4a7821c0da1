/-! ===== the class's queue tells the fewest steps ===== -/
/-- i cells of the queue done, and k sides of the next one; m: the cells in it -/
def MI (blk : Nat → Bool) (s i k m : Nat) (E : Nat → Int) (Q : Nat → Nat) : Prop :=
  (1 ≤ m ∧ m ≤ 64 ∧ i ≤ m) ∧ (∀ j : Nat, j < m → Q j < 64 ∧ 0 ≤ E (Q j) ∧ E (Q j) ≤ j) ∧
  (∀ j j2 : Nat, j < j2 → j2 < m → Q j ≠ Q j2) ∧ (∀ x : Nat, x < 64 → 0 ≤ E x → ∃ j : Nat, j < m ∧ Q j = x) ∧
  (E s = 0 ∧ (∀ x : Nat, x < 64 → -1 ≤ E x) ∧ (∀ x : Nat, x < 64 → E x = 0 → x = s) ∧ (∀ x : Nat, x < 64 → 0 < E x → blk x = false ∧ ∃ d : Nat, d < 64 ∧ far d x = 1 ∧ E d = E x - 1)) ∧
  (∀ j j2 : Nat, j ≤ j2 → j2 < m → E (Q j) ≤ E (Q j2)) ∧ (i < m → ∀ j : Nat, j < m → E (Q j) ≤ E (Q i) + 1) ∧
  (∀ j : Nat, j < i → ∀ x : Nat, x < 64 → far (Q j) x = 1 → blk x = false → 0 ≤ E x ∧ E x ≤ E (Q j) + 1) ∧
  (i < m → ∀ z : Nat, z < k → ∀ x : Nat, x < 64 → nx (Q i) z = x → blk x = false → 0 ≤ E x ∧ E x ≤ E (Q i) + 1)
def UQ (Q : Nat → Nat) (m x : Nat) : Nat → Nat := fun j => if j = m then x else Q j
section MSR
variable {blk : Nat → Bool} {s i k m : Nat} {E : Nat → Int} {Q : Nat → Nat}
theorem MI_set (hB : MI blk s i k m E Q) (him : i < m) (hk : k < 4) {x : Nat} (hx : x < 64) (hn : nx (Q i) k = x) (hb : blk x = false) (he : E x = -1) : m < 64 ∧ MI blk s i (k + 1) (m + 1) (U E x (E (Q i) + 1)) (UQ Q m x) := by
  obtain ⟨b1, b2, b3, b4, ⟨b5, b6, b7, b8⟩, b9, b10, b11, b12⟩ := hB
  have qi := b2 i him
  have fx : far (Q i) x = 1 := (nx_far (by omega) (by omega) (by omega) (by omega)).mpr ⟨k, hk, hn⟩
  have ne : ∀ j, j < m → Q j ≠ x := fun j hj e => by
    have := b2 j hj
    rw [e, he] at this
    omega
  have hQ : ∀ j, j < m → UQ Q m x j = Q j := fun j hj => if_neg (by omega)
  have hQm : UQ Q m x m = x := if_pos rfl
  have hE : ∀ j, j < m → U E x (E (Q i) + 1) (Q j) = E (Q j) := fun j hj => U_ne _ _ (ne j hj)
  have sx : s ≠ x := fun e => by rw [e, he] at b5; omega
  have h64 : m < 64 := by
    have := fb_holes 64 (m + 1) (UQ Q m x) (fun j hj => by
      by_cases e : j = m
      · rw [e, hQm]; exact hx
      · rw [hQ j (by omega)]; exact (b2 j (by omega)).1) (fun j j2 h1 h2 => by
      rw [hQ j (by omega)]
      by_cases e : j2 = m
      · rw [e, hQm]; exact ne j (by omega)
      · rw [hQ j2 (by omega)]; exact b3 j j2 h1 (by omega))
    omega
  refine ⟨h64, ⟨by omega, by omega, by omega⟩, ?_, ?_, ?_, ⟨?_, ?_, ?_, ?_⟩, ?_, ?_, ?_, ?_⟩
  · intro j hj
    by_cases e : j = m
    · rw [e, hQm, U_same]
      omega
    · rw [hQ j (by omega), hE j (by omega)]
      exact b2 j (by omega)
  · intro j j2 h1 h2
    rw [hQ j (by omega)]
    by_cases e : j2 = m
    · rw [e, hQm]; exact ne j (by omega)
    · rw [hQ j2 (by omega)]; exact b3 j j2 h1 (by omega)
  · intro y hy h0
    by_cases e : y = x
    · exact ⟨m, by omega, by rw [hQm, e]⟩
    · rw [U_ne _ _ e] at h0
      obtain ⟨j, h1, h2⟩ := b4 y hy h0
      exact ⟨j, by omega, by rw [hQ j h1]; exact h2⟩
  · rw [U_ne _ _ sx]; exact b5
  · intro y hy
    have := b6 y hy
    rw [U_at]
    split <;> omega
  · intro y hy e
    rw [U_at] at e
    split at e
    · omega
    · exact b7 y hy e
  · intro y hy h0
    by_cases e : y = x
    · subst e
      refine ⟨hb, Q i, qi.1, fx, ?_⟩
      rw [hE i him, U_same]
      omega
    · rw [U_ne _ _ e] at h0 ⊢
      obtain ⟨w1, d, w2, w3, w4⟩ := b8 y hy h0
      refine ⟨w1, d, w2, w3, ?_⟩
      rw [U_ne _ _ (fun q => by rw [q] at w4; omega)]
      exact w4
  · intro j j2 h1 h2
    by_cases e : j2 = m
    · by_cases e2 : j = m
      · rw [e, e2]; omega
      · rw [e, hQm, U_same, hQ j (by omega), hE j (by omega)]
        exact b10 him j (by omega)
    · rw [hQ j (by omega), hQ j2 (by omega), hE j (by omega), hE j2 (by omega)]
      exact b9 j j2 h1 (by omega)
  · intro _ j hj
    rw [hQ i him, hE i him]
    by_cases e : j = m
    · rw [e, hQm, U_same]; omega
    · rw [hQ j (by omega), hE j (by omega)]
      exact b10 him j (by omega)
  · intro j hj y hy hf hby
    rw [hQ j (by omega)] at hf ⊢
    rw [hE j (by omega)]
    have g := b11 j hj y hy hf hby
    rw [U_ne _ _ (fun q => by rw [q] at g; omega)]
    exact g
  · intro _ z hz y hy hn2 hby
    rw [hQ i him] at hn2 ⊢
    rw [hE i him]
    by_cases e : y = x
    · rw [e, U_same]; omega
    · rw [U_ne _ _ e]
      by_cases e2 : z = k
      · rw [e2] at hn2; omega
      · exact b12 him z (by omega) y hy hn2 hby
theorem MI_let (hB : MI blk s i k m E Q) (q : ∀ x : Nat, x < 64 → nx (Q i) k = x → blk x = false → E x ≠ -1) : MI blk s i (k + 1) m E Q := by
  obtain ⟨b1, b2, b3, b4, ⟨b5, b6, b7, b8⟩, b9, b10, b11, b12⟩ := hB
  refine ⟨b1, b2, b3, b4, ⟨b5, b6, b7, b8⟩, b9, b10, b11, fun him z hz x hx hn hb => ?_⟩
  by_cases e : z = k
  · subst e
    have h1 := q x hx hn hb
    have h2 := b6 x hx
    obtain ⟨j, h3, h4⟩ := b4 x hx (by omega)
    have := b10 him j h3
    rw [h4] at this
    omega
  · exact b12 him z (by omega) x hx hn hb
theorem MI_next (hB : MI blk s i 4 m E Q) (him : i < m) : MI blk s (i + 1) 0 m E Q := by
  obtain ⟨b1, b2, b3, b4, ⟨b5, b6, b7, b8⟩, b9, b10, b11, b12⟩ := hB
  refine ⟨⟨b1.1, b1.2.1, by omega⟩, b2, b3, b4, ⟨b5, b6, b7, b8⟩, b9, fun h1 j hj => ?_, fun j hj x hx hf hb => ?_, fun _ z hz => by omega⟩
  · have g1 := b10 him j hj
    have g2 := b9 i (i + 1) (by omega) h1
    omega
  · by_cases e : j = i
    · subst e
      have qj := b2 j him
      obtain ⟨z, hz, hn⟩ := (nx_far (d := ((Q j : Nat) : Int)) (c := (x : Int)) (by omega) (by omega) (by omega) (by omega)).mp hf
      exact b12 him z hz x hx hn hb
    · exact b11 j (by omega) x hx hf hb
theorem MI_WY (hB : MI blk s m k m E Q) : WY blk s E := by
  obtain ⟨b1, b2, b3, b4, ⟨b5, b6, b7, b8⟩, b9, b10, b11, b12⟩ := hB
  refine ⟨b5, b6, b7, b8, fun d hd h0 x hx hf hb => ?_⟩
  obtain ⟨j, h1, h2⟩ := b4 d hd h0
  have := b11 j h1 x hx (by rw [h2]; exact hf) hb
  rw [h2] at this
  exact this
theorem MI_start (hs : s < 64) : MI blk s 0 0 1 (U (fun _ => -1) s 0) (fun _ => s) := by
  have hE : ∀ c : Nat, U (fun _ => -1) s 0 c = if c = s then 0 else -1 := fun c => rfl
  have hEs : U (fun _ => -1) s 0 s = 0 := U_same _ _ _
  refine ⟨⟨by omega, by omega, by omega⟩, fun j hj => ⟨hs, ?_, ?_⟩, fun j j2 h1 h2 => by omega, fun x hx h0 => ⟨0, by omega, ?_⟩, ⟨hEs, fun x hx => ?_, fun x hx e => ?_, fun x hx e => ?_⟩, fun j j2 h1 h2 => Int.le_refl _, fun _ j hj => ?_, fun j hj => by omega, fun _ z hz => by omega⟩
  · show 0 ≤ U (fun _ => -1) s 0 s
    omega
  · show U (fun _ => -1) s 0 s ≤ j
    omega
  · rw [hE] at h0
    split at h0
    · next e => exact e.symm
    · omega
  · rw [hE]; split <;> omega
  · rw [hE] at e
    split at e
    · next p => exact p
    · omega
  · rw [hE] at e
    split at e <;> omega
  · show U (fun _ => -1) s 0 s ≤ U (fun _ => -1) s 0 s + 1
    omega
end MSR
section MS2
variable {b : Int} {σ : Nat → Int} {s : Nat}
theorem x_m57 (h : WF b σ) {k10 : Nat → Int32} (hk : AR k10 (fun c => σ (13 + c)) 64) (p2 : Int32) (r30 : Int32 → Int32 → (Nat → Int32) → (Nat → Int32) → Option ((Nat → Int32) × (Nat → Int32))) {i : Nat} : ∀ (r k f m : Nat) (E : Nat → Int) (Q : Nat → Nat) (st q : Nat → Int32), k + r = 4 → r < f → AR st E 64 → AR q (fun j => ((Q j : Nat) : Int)) m → i < m → MI (fun c => blkB σ c) s i k m E Q →
    ∃ (m2 : Nat) (st2 q2 : Nat → Int32) (E2 : Nat → Int) (Q2 : Nat → Nat), L_X10_measure_57 p2 k10 r30 f (I m) (I i) (I (Q i)) (I k) st q = r30 (I m2) (I i + 1) st2 q2 ∧ AR st2 E2 64 ∧ AR q2 (fun j => ((Q2 j : Nat) : Int)) m2 ∧ MI (fun c => blkB σ c) s (i + 1) 0 m2 E2 Q2 := by
  intro r
  induction r with
  | zero =>
    intro k f m E Q st q hkr hf hst hq him hB
    obtain ⟨f, rfl⟩ : ∃ g, f = g + 1 := ⟨f - 1, by omega⟩
    obtain rfl : k = 4 := by omega
    exact ⟨m, st, q, E, Q, by rw [L_X10_measure_57, brn_pos _ _ (by decide)], hst, hq, MI_next hB him⟩
  | succ r ih =>
    intro k f m E Q st q hkr hf hst hq him hB
    obtain ⟨f, rfl⟩ : ∃ g, f = g + 1 := ⟨f - 1, by omega⟩
    have m64 := hB.1.2.1
    have qi := hB.2.1 i him
    have nin := nx_in ((Q i : Nat) : Int) k
    have hne := x_next (d := ((Q i : Nat) : Int)) (by omega) (by omega) (k := k) (by omega)
    have kk : I (k : Int) + 1 = I ((k + 1 : Nat) : Int) := by rw [lit_1, I_add]; congr 1
    have mm : I (m : Int) + 1 = I ((m + 1 : Nat) : Int) := by rw [lit_1, I_add]; congr 1
    have go : (∀ x : Nat, x < 64 → nx (Q i) k = x → blkB σ x = false → E x ≠ -1) → ∃ (m2 : Nat) (st2 q2 : Nat → Int32) (E2 : Nat → Int) (Q2 : Nat → Nat), L_X10_measure_57 p2 k10 r30 f (I m) (I i) (I (Q i)) (I ((k + 1 : Nat) : Int)) st q = r30 (I m2) (I i + 1) st2 q2 ∧ AR st2 E2 64 ∧ AR q2 (fun j => ((Q2 j : Nat) : Int)) m2 ∧ MI (fun c => blkB σ c) s (i + 1) 0 m2 E2 Q2 :=
      fun g => ih (k + 1) f m E Q st q (by omega) (by omega) hst hq him (MI_let hB g)
    rw [L_X10_measure_57, brn_neg _ _ (by rw [show (4 : Int32) = I 4 from rfl, I_le (by omega) (by omega) (by omega) (by omega)]; omega), hne, bnd_some, kk]
    by_cases e1 : nx (Q i) k = -1
    · rw [brn_pos _ _ (by rw [e1, m1])]
      exact go (fun x hx hn => by omega)
    · obtain ⟨x, ex⟩ := Int.eq_ofNat_of_zero_le (show 0 ≤ nx (Q i) k by omega)
      have hx : x < 64 := by omega
      rw [brn_neg _ _ (by rw [m1, I_eq (by omega) (by omega) (by omega) (by omega)]; exact e1), ex, x_isBlocked h hk (c := (x : Int)) (by omega) (by omega), bnd_some]
      cases e2 : blkB σ x with
      | true =>
        rw [brn_neg _ _ (show ¬ bI true = 0 by decide)]
        exact go (fun y hy hn hby => by
          have : y = x := by omega
          rw [this, e2] at hby
          cases hby)
      | false =>
        have bx := hB.2.2.2.2.1.2.1 x hx
        have ux : E x ≤ 64 := by
          by_cases p : 0 ≤ E x
          · obtain ⟨j, h1, h2⟩ := hB.2.2.2.1 x hx p
            have := hB.2.1 j h1
            rw [h2] at this
            omega
          · omega
        rw [brn_pos _ _ (show bI false = 0 from rfl), x_at64 hst (i := x) (by omega) (by omega), bnd_some]
        by_cases e3 : E x = -1
        · obtain ⟨g0, g⟩ := MI_set hB him (by omega) hx ex e2 e3
          have hap : AR (upd q m (I x)) (fun j => ((UQ Q m x j : Nat) : Int)) ((m + 1 : Nat) : Int) := by
            intro j hj
            unfold upd UQ
            by_cases e : j = m
            · rw [if_pos e]
              show I (x : Int) = I (((if j = m then x else Q j : Nat)) : Int)
              rw [if_pos e]
            · rw [if_neg e]
              show q j = I (((if j = m then x else Q j : Nat)) : Int)
              rw [if_neg e]
              exact hq j (by omega)
          have gi : UQ Q m x i = Q i := if_neg (by omega)
          obtain ⟨m2, st2, q2, E2, Q2, u1, u2⟩ := ih (k + 1) f (m + 1) _ _ _ _ (by omega) (by omega) (AR_upd hst x (E (Q i) + 1)) hap (by omega) g
          refine ⟨m2, st2, q2, E2, Q2, ?_, u2⟩
          rw [gi] at u1
          rw [brn_pos _ _ (by rw [e3, m1]), x_at64 hst (i := Q i) (by omega) (by omega), bnd_some, x_put (N := 64) (by decide) hx, bnd_some, x_put (N := 64) (by decide) g0, bnd_some, mm, lit_1, I_add]
          exact u1
        · rw [brn_neg _ _ (by rw [m1, I_eq (by omega) (by omega) (by omega) (by omega)]; exact e3)]
          exact go (fun y hy hn hby => by
            have : y = x := by omega
            rw [this]
            exact e3)
theorem x_m30 (h : WF b σ) {k10 : Nat → Int32} (hk : AR k10 (fun c => σ (13 + c)) 64) (p2 : Int32) : ∀ (r i f m : Nat) (E : Nat → Int) (Q : Nat → Nat) (st q : Nat → Int32), i + r = 64 → r < f → AR st E 64 → AR q (fun j => ((Q j : Nat) : Int)) m → MI (fun c => blkB σ c) s i 0 m E Q →
    ∃ (st2 q2 : Nat → Int32) (D : Nat → Int), L_X10_measure_30 p2 k10 f (I m) (I i) st q = some (st2, q2) ∧ AR st2 D 64 ∧ WY (fun c => blkB σ c) s D := by
  intro r
  induction r with
  | zero =>
    intro i f m E Q st q hi hf hst hq hB
    obtain ⟨f, rfl⟩ : ∃ g, f = g + 1 := ⟨f - 1, by omega⟩
    have b1 := hB.1
    obtain rfl : i = m := by omega
    exact ⟨st, q, E, by rw [L_X10_measure_30, brn_pos _ _ (by rw [I_le (by omega) (by omega) (by omega) (by omega)]; omega)], hst, MI_WY hB⟩
  | succ r ih =>
    intro i f m E Q st q hi hf hst hq hB
    obtain ⟨f, rfl⟩ : ∃ g, f = g + 1 := ⟨f - 1, by omega⟩
    have b1 := hB.1
    by_cases e : i = m
    · subst e
      exact ⟨st, q, E, by rw [L_X10_measure_30, brn_pos _ _ (by rw [I_le (by omega) (by omega) (by omega) (by omega)]; omega)], hst, MI_WY hB⟩
    · obtain ⟨m2, st1, q1, E1, Q1, g1, g2, g3, g4⟩ := x_m57 h hk p2 (L_X10_measure_30 p2 k10 f) 4 0 100 m E Q st q (by omega) (by omega) hst hq (show i < m by omega) hB
      obtain ⟨st2, q2, D, u1, u2⟩ := ih (i + 1) f m2 E1 Q1 st1 q1 (by omega) (by omega) g2 g3 g4
      have kk : I (i : Int) + 1 = I ((i + 1 : Nat) : Int) := by rw [lit_1, I_add]; congr 1
      refine ⟨st2, q2, D, ?_, u2⟩
      rw [L_X10_measure_30, brn_neg _ _ (by rw [I_le (by omega) (by omega) (by omega) (by omega)]; omega), brn_neg _ _ (by rw [show (64 : Int32) = I 64 from rfl, I_le (by omega) (by omega) (by omega) (by omega)]; omega), x_at (N := 64) (by decide) hq (i := i) (by omega) (by omega), bnd_some]
      refine Eq.trans g1 ?_
      rw [kk]
      exact u1
theorem x_measure (h : WF b σ) {k10 : Nat → Int32} (hk : AR k10 (fun c => σ (13 + c)) 64) (hs : s < 64) (st q : Nat → Int32) : ∃ (st2 q2 : Nat → Int32) (D : Nat → Int), F_X10_measure (I s) k10 st q = some (st2, q2) ∧ AR st2 D 64 ∧ WY (fun c => blkB σ c) s D := by
  obtain ⟨a1, e1, e2⟩ := x_clear st
  have ha : AR (upd a1 s (I 0)) (U (fun _ => -1) s 0) 64 := AR_upd (fun i hi => e2 i (by omega)) s 0
  have hq : AR (upd q 0 (I s)) (fun j => (((fun _ => s) j : Nat) : Int)) ((1 : Nat) : Int) := by
    intro j hj
    have : j = 0 := by omega
    rw [this]
    rfl
  obtain ⟨st2, q2, D, u1, u2⟩ := x_m30 h hk (I s) 64 0 100 1 _ (fun _ => s) _ _ (by omega) (by omega) ha hq (MI_start hs)
  refine ⟨st2, q2, D, ?_, u2⟩
  unfold F_X10_measure
  rw [e1, bnd_some, x_put (N := 64) (by decide) hs, bnd_some, show F_X7_put 64 0 (I s) q = some (upd q 0 (I s)) from x_put (N := 64) (by decide) (i := 0) (by decide) (I s), bnd_some]
  exact u1
end MS2
