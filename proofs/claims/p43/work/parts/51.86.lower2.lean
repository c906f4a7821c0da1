/-! ===== the class's lowering tells the fewest steps ===== -/
/-- no neighbour of a reached cell lies more than a step beyond -/
def FX (blk : Nat → Bool) (E : Nat → Int) : Prop := ∀ d : Nat, d < 64 → ∀ c : Nat, c < 64 → far d c = 1 → 0 ≤ E d → blk c = false → 0 ≤ E c ∧ E c ≤ E d + 1
section LW2
variable {b : Int} {σ D E F : Nat → Int} {s : Nat}
theorem low_FX {blk : Nat → Bool} (hW : WY blk s D) (h : LI s D E) (hF : FX blk E) : ∀ (k : Nat) (c : Nat), c < 64 → D c = k → 0 ≤ E c ∧ E c ≤ k := by
  intro k
  induction k with
  | zero =>
    intro c hc e
    have := hW.2.2.1 c hc e
    rw [this, h.1]
    omega
  | succ k ih =>
    intro c hc e
    obtain ⟨h1, d, h2, h3, h4⟩ := hW.2.2.2.1 c hc (by omega)
    have a := ih d h2 (by omega)
    have := hF d h2 c hc h3 a.1 h1
    omega
theorem low_fin {blk : Nat → Bool} (hW : WY blk s D) (h : LI s D E) (hG : ∀ c : Nat, c < 64 → 0 ≤ D c → 0 ≤ E c ∧ E c ≤ D c) : ∀ c : Nat, c < 64 → E c = D c := by
  intro c hc
  have h1 := h.2 c hc
  have h2 := hW.2.1 c hc
  by_cases q : 0 ≤ D c
  · have a := hG c hc q
    have := h1.2 a.1
    omega
  · by_cases p : 0 ≤ E c
    · have := h1.2 p
      omega
    · omega
theorem x_lowerL (h : WF b σ) {k10 : Nat → Int32} (hk : AR k10 (fun c => σ (13 + c)) 64) (hs : s < 64) (hW : WY (fun c => blkB σ c) s D) (p2 : Int32) : ∀ (r n f : Nat) (E : Nat → Int) (a : Nat → Int32) (fl : Bool), n + r = 65 → r < f → AR a E 64 → LI s D E → (∀ c : Nat, c < 64 → -1 ≤ E c ∧ E c ≤ 256 * n) → (∀ c : Nat, c < 64 → 0 ≤ D c → D c ≤ n → 0 ≤ E c ∧ E c ≤ D c) → (fl = false → FX (fun c => blkB σ c) E) →
    ∃ a', L_X10_lower_21 p2 k10 f (bI fl) (I n) a = some a' ∧ AR a' D 64 := by
  have fin : ∀ (E : Nat → Int) (a : Nat → Int32), AR a E 64 → (∀ c : Nat, c < 64 → E c = D c) → AR a D 64 := by
    intro E a ha hE i hi
    rw [← hE i (by omega)]
    exact ha i hi
  intro r
  induction r with
  | zero =>
    intro n f E a fl hn hf ha hL hB hG hF
    obtain ⟨f, rfl⟩ : ∃ g, f = g + 1 := ⟨f - 1, by omega⟩
    refine ⟨a, ?_, fin E a ha (low_fin hW hL (fun c hc q => hG c hc q (by have := WY_63 hs hW hc; omega)))⟩
    rw [L_X10_lower_21, brn_pos _ _ (by rw [show (64 : Int32) = I 64 from rfl, I_lt (by omega) (by omega) (by omega) (by omega)]; omega)]
  | succ r ih =>
    intro n f E a fl hn hf ha hL hB hG hF
    obtain ⟨f, rfl⟩ : ∃ g, f = g + 1 := ⟨f - 1, by omega⟩
    rw [L_X10_lower_21, brn_neg _ _ (by rw [show (64 : Int32) = I 64 from rfl, I_lt (by omega) (by omega) (by omega) (by omega)]; omega)]
    cases fl with
    | false =>
      refine ⟨a, brn_pos _ _ rfl, fin E a ha (low_fin hW hL (fun c hc q => ?_))⟩
      have := low_FX hW hL (hF rfl) (D c).toNat c hc (by omega)
      omega
    | true =>
      rw [brn_neg _ _ (show ¬ bI true = 0 by decide)]
      obtain ⟨a1, fl1, t1, t2, t3, t4⟩ := x_sweepL h hk p2 (L_X10_lower_21 p2 k10 f) (I n) 64 0 100 E a false (256 * n) (by omega) (by omega) ha (by omega) hB
      have ok := sw_ok hW 64 0 E (by omega) hL
      obtain ⟨a', u1, u2⟩ := ih (n + 1) f (swS σ 64 0 E) a1 fl1 (by omega) (by omega) t2 ok.1 (fun c hc => by have := t4 c hc; omega) (fun c hc q1 q2 => by
        by_cases e : D c ≤ n
        · have g := hG c hc q1 e
          have := ok.2 c hc g.1
          omega
        · obtain ⟨w1, d, w2, w3, w4⟩ := hW.2.2.2.1 c hc (by omega)
          have g := hG d w2 (by omega) (by omega)
          have := sw_step hW hL w2 hc w3 g.1 w1
          omega) (fun q => by
        have e := (t3 q).2
        intro d hd c hc hf1 hd1 hb1
        rw [e d] at hd1 ⊢
        exact sw_step hW hL hd hc hf1 hd1 hb1)
      refine ⟨a', ?_, u2⟩
      have kk : I (n : Int) + 1 = I ((n + 1 : Nat) : Int) := by rw [lit_1, I_add]; congr 1
      refine Eq.trans t1 ?_
      rw [kk]
      exact u1
theorem x_lower (h : WF b σ) {k10 : Nat → Int32} (hk : AR k10 (fun c => σ (13 + c)) 64) (hs : s < 64) (hW : WY (fun c => blkB σ c) s D) (a : Nat → Int32) : ∃ a', F_X10_lower (I s) k10 a = some a' ∧ AR a' D 64 := by
  obtain ⟨a1, e1, e2⟩ := x_clear a
  have ha : AR (upd a1 s (I 0)) (U (fun _ => -1) s 0) 64 := AR_upd (fun i hi => e2 i (by omega)) s 0
  have hE : ∀ c : Nat, c < 64 → U (fun _ => -1) s 0 c = if c = s then 0 else -1 := fun c _ => rfl
  obtain ⟨a', u1, u2⟩ := x_lowerL h hk hs hW (I s) 65 0 100 (U (fun _ => -1) s 0) (upd a1 s (I 0)) true (by omega) (by omega) ha ⟨U_same _ _ _, fun c hc => by
      rw [hE c hc]
      split
      · next e => subst e; rw [hW.1]; omega
      · omega⟩ (fun c hc => by rw [hE c hc]; split <;> omega) (fun c hc q1 q2 => by
      have e : c = s := hW.2.2.1 c hc (by omega)
      rw [hE c hc, if_pos e]
      omega) (fun q => by cases q)
  refine ⟨a', ?_, u2⟩
  unfold F_X10_lower
  rw [e1, bnd_some, x_put (N := 64) (by decide) hs, bnd_some]
  exact u1
end LW2
