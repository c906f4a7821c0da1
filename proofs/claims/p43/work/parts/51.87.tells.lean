/-! ===== the reference's rounds tell the fewest steps ===== -/
/-- round t, cell c, c's neighbours below k done; 1000: not reached -/
def BI (blk : Nat → Bool) (s : Nat) (t : Int) (c k : Nat) (E : Nat → Int) : Prop :=
  E s = 0 ∧ (∀ x : Nat, x < 64 → 0 ≤ E x ∧ (E x ≤ t + 1 ∨ E x = 1000)) ∧ (∀ x : Nat, x < 64 → E x = 0 → x = s) ∧
  (∀ x : Nat, x < 64 → 0 < E x → E x ≤ t + 1 → blk x = false ∧ ∃ d : Nat, d < 64 ∧ far d x = 1 ∧ E d = E x - 1) ∧
  (∀ d : Nat, d < 64 → (E d < t ∨ E d = t ∧ d < c) → ∀ x : Nat, x < 64 → far d x = 1 → blk x = false → E x ≤ E d + 1) ∧
  (E c = t → ∀ x : Nat, x < k → far c x = 1 → blk x = false → E x ≤ t + 1)
section TLW
variable {blk : Nat → Bool} {s c k : Nat} {t : Int} {E : Nat → Int}
theorem BI_set (hB : BI blk s t c k E) (h1 : 0 ≤ t) (h2 : t ≤ 63) (hc : c < 64) (hk : k < 64) (he : E c = t) (q : far c k = 1 ∧ blk k = false ∧ E k = 1000) : BI blk s t c (k + 1) (U E k (t + 1)) ∧ U E k (t + 1) c = t := by
  obtain ⟨b1, b2, b3, b4, b5, b6⟩ := hB
  have ck : c ≠ k := fun e => by rw [← e, he] at q; omega
  have sk : s ≠ k := fun e => by rw [← e, b1] at q; omega
  have ec : U E k (t + 1) c = t := by rw [U_ne _ _ ck]; exact he
  refine ⟨⟨?_, ?_, ?_, ?_, ?_, ?_⟩, ec⟩
  · rw [U_ne _ _ sk]; exact b1
  · intro x hx
    have := b2 x hx
    rw [U_at]
    split <;> omega
  · intro x hx e
    rw [U_at] at e
    by_cases xk : x = k
    · rw [if_pos xk] at e; omega
    · rw [if_neg xk] at e; exact b3 x hx e
  · intro x hx e1 e2
    by_cases xk : x = k
    · refine ⟨by rw [xk]; exact q.2.1, c, hc, by rw [xk]; exact q.1, ?_⟩
      rw [ec, xk, U_same]
      omega
    · rw [U_ne _ _ xk] at e1 e2 ⊢
      obtain ⟨w1, d, w2, w3, w4⟩ := b4 x hx e1 e2
      refine ⟨w1, d, w2, w3, ?_⟩
      have dk : d ≠ k := fun e => by rw [e] at w4; omega
      rw [U_ne _ _ dk]
      exact w4
  · intro d hd hq x hx hf hb
    by_cases dk : d = k
    · rw [dk, U_same] at hq; omega
    · rw [U_ne _ _ dk] at hq ⊢
      have g := b5 d hd hq x hx hf hb
      by_cases xk : x = k
      · rw [xk] at g; omega
      · rw [U_ne _ _ xk]; exact g
  · intro _ x hx hf hb
    by_cases xk : x = k
    · rw [xk, U_same]; omega
    · rw [U_ne _ _ xk]
      exact b6 he x (by omega) hf hb
theorem BI_let (hB : BI blk s t c k E) (hk : k < 64) (q : ¬ (far c k = 1 ∧ blk k = false ∧ E k = 1000)) : BI blk s t c (k + 1) E := by
  obtain ⟨b1, b2, b3, b4, b5, b6⟩ := hB
  refine ⟨b1, b2, b3, b4, b5, fun he x hx hf hb => ?_⟩
  by_cases xk : x = k
  · subst xk
    have := b2 x hk
    have : E x ≠ 1000 := fun e => q ⟨hf, hb, e⟩
    omega
  · exact b6 he x (by omega) hf hb
theorem BI_next (hB : BI blk s t c 64 E) : BI blk s t (c + 1) 0 E := by
  obtain ⟨b1, b2, b3, b4, b5, b6⟩ := hB
  refine ⟨b1, b2, b3, b4, fun d hd hq x hx hf hb => ?_, fun _ x hx => by omega⟩
  by_cases dc : d = c
  · subst dc
    by_cases e : E d = t
    · have := b6 e x hx hf hb
      omega
    · exact b5 d hd (by omega) x hx hf hb
  · exact b5 d hd (by omega) x hx hf hb
theorem BI_skip (hB : BI blk s t c k E) (he : E c ≠ t) : BI blk s t (c + 1) 0 E := by
  obtain ⟨b1, b2, b3, b4, b5, b6⟩ := hB
  refine ⟨b1, b2, b3, b4, fun d hd hq x hx hf hb => ?_, fun _ x hx => by omega⟩
  by_cases dc : d = c
  · subst dc
    exact b5 d hd (by omega) x hx hf hb
  · exact b5 d hd (by omega) x hx hf hb
theorem BI_round (hB : BI blk s t 64 0 E) (h2 : t ≤ 63) : BI blk s (t + 1) 0 0 E := by
  obtain ⟨b1, b2, b3, b4, b5, b6⟩ := hB
  refine ⟨b1, fun x hx => ?_, b3, fun x hx e1 e2 => b4 x hx e1 ?_, fun d hd hq x hx hf hb => b5 d hd (by omega) x hx hf hb, fun _ x hx => by omega⟩
  · have := b2 x hx; omega
  · have := b2 x hx; omega
theorem BI_down (hB : BI blk s t c k E) (h2 : t ≤ 64) : ∀ (n x : Nat), x < 64 → E x = n → E x ≤ t + 1 → ∀ i : Nat, i ≤ n → ∃ d : Nat, d < 64 ∧ E d = i := by
  intro n
  induction n with
  | zero =>
    intro x hx e e2 i hi
    exact ⟨x, hx, by omega⟩
  | succ n ih =>
    intro x hx e e2 i hi
    by_cases q : i = n + 1
    · exact ⟨x, hx, by omega⟩
    · obtain ⟨-, d, w2, -, w4⟩ := hB.2.2.2.1 x hx (by omega) e2
      exact ih d w2 (by omega) (by omega) i (by omega)
theorem BI_WY (hB : BI blk s 64 0 0 E) : WY blk s (fun c => if E c = 1000 then -1 else E c) := by
  have big : ∀ x : Nat, x < 64 → E x ≤ 63 ∨ E x = 1000 := by
    intro x hx
    refine Classical.byContradiction (fun q => ?_)
    have := hB.2.1 x hx
    exact steps63 (G := E) (fun i hi => BI_down hB (by omega) (E x).toNat x hx (by omega) (by omega) i (by omega))
  obtain ⟨b1, b2, b3, b4, b5, b6⟩ := hB
  refine ⟨?_, ?_, ?_, ?_, ?_⟩
  · show (if E s = 1000 then (-1 : Int) else E s) = 0
    rw [if_neg (by omega)]; exact b1
  · intro x hx
    show -1 ≤ (if E x = 1000 then (-1 : Int) else E x)
    have := b2 x hx
    split <;> omega
  · intro x hx e
    replace e : (if E x = 1000 then (-1 : Int) else E x) = 0 := e
    split at e
    · omega
    · exact b3 x hx e
  · intro x hx e
    replace e : 0 < (if E x = 1000 then (-1 : Int) else E x) := e
    split at e
    · omega
    · next q =>
      have := big x hx
      obtain ⟨w1, d, w2, w3, w4⟩ := b4 x hx e (by omega)
      refine ⟨w1, d, w2, w3, ?_⟩
      show (if E d = 1000 then (-1 : Int) else E d) = (if E x = 1000 then (-1 : Int) else E x) - 1
      rw [if_neg q, if_neg (by omega)]
      exact w4
  · intro d hd e x hx hf hb
    replace e : 0 ≤ (if E d = 1000 then (-1 : Int) else E d) := e
    show 0 ≤ (if E x = 1000 then (-1 : Int) else E x) ∧ (if E x = 1000 then (-1 : Int) else E x) ≤ (if E d = 1000 then (-1 : Int) else E d) + 1
    split at e
    · omega
    · next q =>
      have := big d hd
      have g := b5 d hd (by omega) x hx hf hb
      have := b2 x hx
      rw [if_neg (by omega), if_neg q]
      omega
end TLW
section TL2
variable {b : Int} {σ : Nat → Int} {s : Nat}
theorem m_w51 (h : WF b σ) (p1 : Int32) (r34 : Int32 → (Nat → Int32) → Option (Nat → Int32)) (r42 : Int32 → Int32 → (Nat → Int32) → Option (Nat → Int32)) {t c : Nat} (ht : t ≤ 63) (hc : c < 64) : ∀ (r k f : Nat) (E : Nat → Int) (a : Nat → Int32), k + r = 64 → r < f → AR a E 64 → BI (fun c => blkB σ c) s t c k E → E c = t →
    ∃ (a' : Nat → Int32) (E' : Nat → Int), L_X12_tellsWays_51 p1 (J σ) r34 r42 f (I t) (I c) (I k) a = r42 (I t) (I c + 1) a' ∧ AR a' E' 64 ∧ BI (fun c => blkB σ c) s t (c + 1) 0 E' := by
  intro r
  induction r with
  | zero =>
    intro k f E a hk hf ha hB he
    obtain ⟨f, rfl⟩ : ∃ g, f = g + 1 := ⟨f - 1, by omega⟩
    obtain rfl : k = 64 := by omega
    exact ⟨a, E, by rw [L_X12_tellsWays_51, brn_pos _ _ (by decide)], ha, BI_next hB⟩
  | succ r ih =>
    intro k f E a hk hf ha hB he
    obtain ⟨f, rfl⟩ : ∃ g, f = g + 1 := ⟨f - 1, by omega⟩
    have hfar := m_far (c := (c : Int)) (d := (k : Int)) (by omega) (by omega) (by omega) (by omega)
    have hfin := far_in (c := (c : Int)) (d := (k : Int)) (by omega) (by omega) (by omega) (by omega)
    have hbk := m_isBlocked h (c := (k : Int)) (by omega) (by omega)
    have ecl : (I (c : Int)).toNatClampNeg = c := by rw [I_cl (by omega) (by omega)]; omega
    have ekl : (I (k : Int)).toNatClampNeg = k := by rw [I_cl (by omega) (by omega)]; omega
    have ic : inb (I (c : Int)) 64 := by rw [I_inb (by omega) (by omega)]; omega
    have ik : inb (I (k : Int)) 64 := by rw [I_inb (by omega) (by omega)]; omega
    have kk : I (k : Int) + 1 = I ((k + 1 : Nat) : Int) := by rw [lit_1, I_add]; congr 1
    have ak := ha k (by omega)
    have ac := ha c (by omega)
    have bk := hB.2.1 k (by omega)
    have j104 : J_X12_tellsWays_104 p1 (J σ) r34 r42 (L_X12_tellsWays_51 p1 (J σ) r34 r42 f) (I t) (I c) (I k) a = L_X12_tellsWays_51 p1 (J σ) r34 r42 f (I t) (I c) (I ((k + 1 : Nat) : Int)) (upd a k (I (E k))) := by
      unfold J_X12_tellsWays_104 J_X12_tellsWays_105 J_X12_tellsWays_131
      rw [brn_pos _ _ rfl, grd_pos _ ik, grd_pos _ ik, ekl, ak, kk]
    have j105 : J_X12_tellsWays_105 p1 (J σ) r34 r42 (L_X12_tellsWays_51 p1 (J σ) r34 r42 f) 1 (I t) (I c) (I k) a = L_X12_tellsWays_51 p1 (J σ) r34 r42 f (I t) (I c) (I ((k + 1 : Nat) : Int)) (upd a k (I (t + 1))) := by
      unfold J_X12_tellsWays_105 J_X12_tellsWays_131
      rw [brn_neg _ _ (by decide), grd_pos _ ik, ekl, kk, lit_1, I_add]
    have keep : AR (upd a k (I (E k))) E 64 := by
      intro i hi
      unfold upd
      split
      · next e => rw [e]
      · exact ha i hi
    rw [L_X12_tellsWays_51, brn_neg _ _ (by rw [show (64 : Int32) = I 64 from rfl, I_le (by omega) (by omega) (by omega) (by omega)]; omega), grd_pos _ ic, ecl, ac, he, brn_pos _ _ rfl, hfar, bnd_some]
    by_cases q1 : far c k = 1
    · rw [brn_pos _ _ (by rw [q1, lit_1]), hbk, bnd_some]
      cases q2 : blkB σ k with
      | false =>
        rw [brn_pos _ _ (show bI false = 0 from rfl), grd_pos _ ik, ekl, ak]
        by_cases q3 : E k = 1000
        · have g := BI_set hB (by omega) (by omega) hc (by omega) he ⟨q1, q2, q3⟩
          rw [brn_pos _ _ (by rw [q3, lit_1000]), j105]
          exact ih (k + 1) f _ _ (by omega) (by omega) (AR_upd ha k _) g.1 g.2
        · rw [brn_neg _ _ (by rw [lit_1000, I_eq (by omega) (by omega) (by omega) (by omega)]; exact q3), j104]
          exact ih (k + 1) f _ _ (by omega) (by omega) keep (BI_let hB (by omega) (fun q => q3 q.2.2)) he
      | true =>
        rw [brn_neg _ _ (show ¬ bI true = 0 by decide), j104]
        exact ih (k + 1) f _ _ (by omega) (by omega) keep (BI_let hB (by omega) (fun q => by have := q.2.1; rw [q2] at this; cases this)) he
    · rw [brn_neg _ _ (by rw [lit_1, I_eq (by omega) (by omega) (by omega) (by omega)]; exact q1), j104]
      exact ih (k + 1) f _ _ (by omega) (by omega) keep (BI_let hB (by omega) (fun q => q1 q.1)) he
theorem m_w42 (h : WF b σ) (p1 : Int32) (r34 : Int32 → (Nat → Int32) → Option (Nat → Int32)) {t : Nat} (ht : t ≤ 63) : ∀ (r c f : Nat) (E : Nat → Int) (a : Nat → Int32), c + r = 64 → r < f → AR a E 64 → BI (fun c => blkB σ c) s t c 0 E →
    ∃ (a' : Nat → Int32) (E' : Nat → Int), L_X12_tellsWays_42 p1 (J σ) r34 f (I t) (I c) a = r34 (I t + 1) a' ∧ AR a' E' 64 ∧ BI (fun c => blkB σ c) s t 64 0 E' := by
  intro r
  induction r with
  | zero =>
    intro c f E a hc hf ha hB
    obtain ⟨f, rfl⟩ : ∃ g, f = g + 1 := ⟨f - 1, by omega⟩
    obtain rfl : c = 64 := by omega
    exact ⟨a, E, by rw [L_X12_tellsWays_42, brn_pos _ _ (by decide)], ha, hB⟩
  | succ r ih =>
    intro c f E a hc hf ha hB
    obtain ⟨f, rfl⟩ : ∃ g, f = g + 1 := ⟨f - 1, by omega⟩
    have kk : I (c : Int) + 1 = I ((c + 1 : Nat) : Int) := by rw [lit_1, I_add]; congr 1
    rw [L_X12_tellsWays_42, brn_neg _ _ (by rw [show (64 : Int32) = I 64 from rfl, I_le (by omega) (by omega) (by omega) (by omega)]; omega)]
    by_cases he : E c = t
    · obtain ⟨a1, E1, g1, g2, g3⟩ := m_w51 h p1 r34 (L_X12_tellsWays_42 p1 (J σ) r34 f) ht (show c < 64 by omega) 64 0 100 E a (by omega) (by omega) ha hB he
      obtain ⟨a', E', u1, u2, u3⟩ := ih (c + 1) f E1 a1 (by omega) (by omega) g2 g3
      refine ⟨a', E', ?_, u2, u3⟩
      refine Eq.trans g1 ?_
      rw [kk]
      exact u1
    · obtain ⟨a', E', u1, u2, u3⟩ := ih (c + 1) f E a (by omega) (by omega) ha (BI_skip hB he)
      refine ⟨a', E', ?_, u2, u3⟩
      have ecl : (I (c : Int)).toNatClampNeg = c := by rw [I_cl (by omega) (by omega)]; omega
      have ac := ha c (by omega)
      have bc := hB.2.1 c (by omega)
      show L_X12_tellsWays_51 p1 (J σ) r34 (L_X12_tellsWays_42 p1 (J σ) r34 f) (99 + 1) (I t) (I c) 0 a = _
      rw [L_X12_tellsWays_51, brn_neg _ _ (by decide), grd_pos _ (by rw [I_inb (by omega) (by omega)]; omega), ecl, ac, brn_neg _ _ (by rw [I_eq (by omega) (by omega) (by omega) (by omega)]; exact he), kk]
      exact u1
theorem m_w34 (h : WF b σ) (p1 : Int32) : ∀ (r t f : Nat) (E : Nat → Int) (a : Nat → Int32), t + r = 64 → r < f → AR a E 64 → BI (fun c => blkB σ c) s t 0 0 E →
    ∃ (a' : Nat → Int32) (E' : Nat → Int), L_X12_tellsWays_34 p1 (J σ) f (I t) a = some a' ∧ AR a' E' 64 ∧ BI (fun c => blkB σ c) s 64 0 0 E' := by
  intro r
  induction r with
  | zero =>
    intro t f E a ht hf ha hB
    obtain ⟨f, rfl⟩ : ∃ g, f = g + 1 := ⟨f - 1, by omega⟩
    obtain rfl : t = 64 := by omega
    exact ⟨a, E, by rw [L_X12_tellsWays_34, brn_pos _ _ (by decide)], ha, hB⟩
  | succ r ih =>
    intro t f E a ht hf ha hB
    obtain ⟨f, rfl⟩ : ∃ g, f = g + 1 := ⟨f - 1, by omega⟩
    have kk : I (t : Int) + 1 = I ((t + 1 : Nat) : Int) := by rw [lit_1, I_add]; congr 1
    obtain ⟨a1, E1, g1, g2, g3⟩ := m_w42 h p1 (L_X12_tellsWays_34 p1 (J σ) f) (show t ≤ 63 by omega) 64 0 100 E a (by omega) (by omega) ha hB
    obtain ⟨a', E', u1, u2, u3⟩ := ih (t + 1) f E1 a1 (by omega) (by omega) g2 (by
      have := BI_round g3 (by omega)
      rw [show ((t + 1 : Nat) : Int) = (t : Int) + 1 by omega]
      exact this)
    refine ⟨a', E', ?_, u2, u3⟩
    rw [L_X12_tellsWays_34, brn_neg _ _ (by rw [show (64 : Int32) = I 64 from rfl, I_le (by omega) (by omega) (by omega) (by omega)]; omega)]
    refine Eq.trans g1 ?_
    rw [kk]
    exact u1
theorem m_w2 (hs : s < 64) : ∀ (r k f : Nat) (a : Nat → Int32), k + r = 64 → r < f → (∀ i : Nat, i < k → a i = I (if i = s then 0 else 1000)) →
    ∃ a' : Nat → Int32, L_X12_tellsWays_2 (I s) (J σ) f (I k) a = L_X12_tellsWays_34 (I s) (J σ) 100 0 a' ∧ ∀ i : Nat, i < 64 → a' i = I (if i = s then 0 else 1000) := by
  intro r
  induction r with
  | zero =>
    intro k f a hk hf ha
    obtain ⟨f, rfl⟩ : ∃ g, f = g + 1 := ⟨f - 1, by omega⟩
    obtain rfl : k = 64 := by omega
    exact ⟨a, by rw [L_X12_tellsWays_2, brn_pos _ _ (by decide)], ha⟩
  | succ r ih =>
    intro k f a hk hf ha
    obtain ⟨f, rfl⟩ : ∃ g, f = g + 1 := ⟨f - 1, by omega⟩
    have ekl : (I (k : Int)).toNatClampNeg = k := by rw [I_cl (by omega) (by omega)]; omega
    have ik : inb (I (k : Int)) 64 := by rw [I_inb (by omega) (by omega)]; omega
    have kk : I (k : Int) + 1 = I ((k + 1 : Nat) : Int) := by rw [lit_1, I_add]; congr 1
    have nx : ∀ v : Int, v = (if k = s then 0 else 1000) → ∀ i : Nat, i < k + 1 → upd a k (I v) i = I (if i = s then 0 else 1000) := by
      intro v hv i hi
      unfold upd
      split
      · next e => rw [e, hv]
      · exact ha i (by omega)
    rw [L_X12_tellsWays_2, brn_neg _ _ (by rw [show (64 : Int32) = I 64 from rfl, I_le (by omega) (by omega) (by omega) (by omega)]; omega)]
    unfold J_X12_tellsWays_25
    by_cases e : k = s
    · rw [brn_pos _ _ (by rw [e]), grd_pos _ ik, ekl, kk]
      exact ih (k + 1) f _ (by omega) (by omega) (nx 0 (by rw [if_pos e]))
    · rw [brn_neg _ _ (by rw [I_eq (by omega) (by omega) (by omega) (by omega)]; omega), grd_pos _ ik, ekl, kk, lit_1000]
      exact ih (k + 1) f _ (by omega) (by omega) (nx 1000 (by rw [if_neg e]))
/-- the reference's row of ways -/
def RW (D : Nat → Int) : Nat → Int := fun c => if D c = -1 then 1000 else D c
theorem m_tellsWays (h : WF b σ) (hs : s < 64) (a : Nat → Int32) : ∃ (a' : Nat → Int32) (D : Nat → Int), F_X12_tellsWays (I s) (J σ) a = some a' ∧ WY (fun c => blkB σ c) s D ∧ AR a' (RW D) 64 := by
  obtain ⟨a1, e1, e2⟩ := m_w2 (σ := σ) hs 64 0 100 a (by omega) (by omega) (fun i hi => by omega)
  have hB : BI (fun c => blkB σ c) s 0 0 0 (fun i => if i = s then 0 else 1000) := by
    refine ⟨if_pos rfl, fun x hx => ?_, fun x hx e => ?_, fun x hx q1 q2 => ?_, fun d hd q => ?_, fun _ x hx => by omega⟩
    · show 0 ≤ (if x = s then (0 : Int) else 1000) ∧ ((if x = s then (0 : Int) else 1000) ≤ 0 + 1 ∨ (if x = s then (0 : Int) else 1000) = 1000)
      split <;> omega
    · replace e : (if x = s then (0 : Int) else 1000) = 0 := e
      split at e
      · next p => exact p
      · omega
    · replace q1 : 0 < (if x = s then (0 : Int) else 1000) := q1
      replace q2 : (if x = s then (0 : Int) else 1000) ≤ 0 + 1 := q2
      split at q1
      · omega
      · next p => rw [if_neg p] at q2; omega
    · replace q : (if d = s then (0 : Int) else 1000) < 0 ∨ (if d = s then (0 : Int) else 1000) = 0 ∧ d < 0 := q
      split at q <;> omega
  obtain ⟨a', E, u1, u2, u3⟩ := m_w34 h (I s) 64 0 100 _ a1 (by omega) (by omega) (fun i hi => e2 i (by omega)) hB
  refine ⟨a', _, ?_, BI_WY u3, ?_⟩
  · unfold F_X12_tellsWays
    exact Eq.trans e1 u1
  · intro i hi
    rw [u2 i hi]
    have := u3.2.1 i (by omega)
    unfold RW
    show I (E i) = I (if (if E i = 1000 then (-1 : Int) else E i) = -1 then 1000 else (if E i = 1000 then (-1 : Int) else E i))
    by_cases q : E i = 1000
    · rw [if_pos q, if_pos rfl, q]
    · rw [if_neg q, if_neg (by omega)]
end TL2
